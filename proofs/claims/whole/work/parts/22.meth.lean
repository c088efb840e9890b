def f_X11_tally_j40 (h : aH) (v0 : Nat) : Option (Int32 × aH) := (ck h 11 v0).bind fun _ => bd2 (f_X11_refuse h v0 (1 : Int32)) fun t1 h2 => some (t1, h2)
def f_X11_tally_j98 (h : aH) (v0 : Nat) (v1 : Int32) (v2 : Int32) (v3 : Int32) (v4 : Int32) (v5 : Int32) : Option ((Int32 × Int32 × aH) ⊕ (Int32 × aH)) := (some (v5 + (1 : Int32))).bind fun t6 => some (.inl (v4, t6, h))
def f_X11_tally_b66 (v0 : Nat) (v1 : Int32) (v2 : Int32) (v3 : Int32) (v4 : Int32) (v5 : Int32) (h : aH) : Option ((Int32 × Int32 × aH) ⊕ (Int32 × aH)) := if v2 ≤ v5 then some (.inr (v4, h)) else (gR h 11 v0 8).bind fun t7 => (gR h 11 v0 11).bind fun t8 => (gR h 11 v0 12).bind fun t9 => (ck h 10 t7).bind fun _ => bd2 (f_X10_holdCourt h t7 t8 t9 (v1 + v5)) fun t10 h11 => if t10 = v3 then (some (v4 + (1 : Int32))).bind fun t12 => f_X11_tally_j98 h11 v0 v1 v2 v3 t12 v5 else f_X11_tally_j98 h11 v0 v1 v2 v3 v4 v5
def f_X11_tally_l66 (v0 : Nat) (v1 : Int32) (v2 : Int32) (v3 : Int32) (v4 : Int32) (v5 : Int32) (h : aH) : Option (Int32 × aH) := whileL wN (fun q : Int32 × Int32 × aH => f_X11_tally_b66 v0 v1 v2 v3 q.1 q.2.1 q.2.2) (v4, v5, h)
def f_X11_tally (h : aH) (v0 : Nat) (v1 : Int32) (v2 : Int32) (v3 : Int32) : Option (Int32 × aH) := (f_X11_below h v1 (10000 : Int32)).bind fun t3 => if t3 = 0 then f_X11_tally_j40 h v0 else if v2 < (1 : Int32) then f_X11_tally_j40 h v0 else if (30 : Int32) < v2 then f_X11_tally_j40 h v0 else if (9999 : Int32) < ((v1 + v2) - (1 : Int32)) then f_X11_tally_j40 h v0 else (f_X11_below h v3 (3 : Int32)).bind fun t4 => if t4 = 0 then f_X11_tally_j40 h v0 else (ck h 11 v0).bind fun _ => (f_X11_canSit h v0).bind fun t5 => if t5 = 0 then (ck h 11 v0).bind fun _ => bd2 (f_X11_refuse h v0 (6 : Int32)) fun t17 h18 => some (t17, h18) else bd2 (f_X11_tally_l66 v0 v1 v2 v3 (0 : Int32) (0 : Int32) h) fun t13 h14 => (ck h14 11 v0).bind fun _ => bd2 (f_X11_give h14 v0 t13) fun t15 h16 => some (t15, h16)
theorem s_X11_tally {h : aH} {v0 : Nat} {v1 : Int32} {v2 : Int32} {v3 : Int32} {out : Int32 × aH} (hf0 : f_X11_tally h v0 v1 v2 v3 = some out) : EV 6 yX11_tally cX11_tally 6 (some .int) h [.ref v0, .int v1, .int v2, .int v3] (some (.int out.1)) out.2 0 0 := by
  refine EV.of (own := RX11) (lv0 := [(0, .ref v0), (1, .int v1), (2, .int v2), (3, .int v3)]) (by decide +kernel) rfl rfl (Nat.le_of_ble_eq_true rfl) ?_
  intro p l e s m args below meth c D cA B Hb C hin
  unfold f_X11_tally at hf0
  have J40 : ∀ (h1 : aH) (t2 : Nat), f_X11_tally_j40 h1 t2 = some out → gW p l e (rmO 6 0 0) s m args below meth c (MQ below (eQ D cA B Hb out.2 (some (.int out.1))) args s 0 0 (fun q => B ≤ q)) D cA B Hb 6 h1 40 [(0, .ref t2)] [] 0 0 := by
    intro h1 t2 hf0
    unfold f_X11_tally_j40 at hf0
    refine r_aload_n C dX11_tally_40 rfl ?_
    refine r_iconst (v := 1) C dX11_tally_41 (by decide) ?_
    obtain ⟨u4, e3, hf0⟩ := ob hf0
    obtain ⟨t5, h6, e7, hf0⟩ := ob2 hf0
    refine r_cV (ci := 11) (rest := []) (st2 := [.int t5]) C (s_X11_refuse e7) mk_X11_refuse rfl (ck_k e3) (by decide) im_X11_refuse sl_X11_refuse lk_X11_142 rfl rfl rfl dX11_tally_42 (Nat.le_of_ble_eq_true rfl) ⟨Nat.le_of_ble_eq_true rfl, Nat.le_of_ble_eq_true rfl⟩ ⟨Nat.le_of_ble_eq_true rfl, Nat.le_of_ble_eq_true rfl⟩ ?_
    obtain rfl := so hf0
    exact r_iret C dX11_tally_45
  refine r_iload_n C dX11_tally_0 rfl ?_
  refine r_sipush (v := 10000) C dX11_tally_1 (by decide) ?_
  obtain ⟨t8, e9, hf0⟩ := ob hf0
  refine r_cS (rest := []) (st2 := [.int t8]) C (s_X11_below e9) mk_X11_below sm_X11_below lk_X11_119 rfl rfl rfl dX11_tally_4 (Nat.le_of_ble_eq_true rfl) ⟨Nat.le_of_ble_eq_true rfl, Nat.le_of_ble_eq_true rfl⟩ ⟨Nat.le_of_ble_eq_true rfl, Nat.le_of_ble_eq_true rfl⟩ ?_
  refine r_ifeq (tgt := 40) C dX11_tally_7 (by decide) (fun c10 => ?_) (fun c10 => ?_)
  · rw [if_pos c10] at hf0
    refine r_subk [0] (lv' := [(0, .ref v0)]) rfl ?_
    exact J40 h v0 hf0
  · rw [if_neg c10] at hf0
    refine r_iload_n C dX11_tally_10 rfl ?_
    refine r_iconst (v := 1) C dX11_tally_11 (by decide) ?_
    refine r_icmp_lt (tgt := 40) C dX11_tally_12 (by decide) (fun c11 => ?_) (fun c11 => ?_)
    · rw [if_pos c11] at hf0
      refine r_subk [0] (lv' := [(0, .ref v0)]) rfl ?_
      exact J40 h v0 hf0
    · rw [if_neg c11] at hf0
      refine r_iload_n C dX11_tally_15 rfl ?_
      refine r_bipush (v := 30) C dX11_tally_16 (by decide) ?_
      refine r_icmp_gt (tgt := 40) C dX11_tally_18 (by decide) (fun c12 => ?_) (fun c12 => ?_)
      · rw [if_pos c12] at hf0
        refine r_subk [0] (lv' := [(0, .ref v0)]) rfl ?_
        exact J40 h v0 hf0
      · rw [if_neg c12] at hf0
        refine r_iload_n C dX11_tally_21 rfl ?_
        refine r_iload_n C dX11_tally_22 rfl ?_
        refine r_iadd C dX11_tally_23 ?_
        refine r_iconst (v := 1) C dX11_tally_24 (by decide) ?_
        refine r_isub C dX11_tally_25 ?_
        refine r_sipush (v := 9999) C dX11_tally_26 (by decide) ?_
        refine r_icmp_gt (tgt := 40) C dX11_tally_29 (by decide) (fun c13 => ?_) (fun c13 => ?_)
        · rw [if_pos c13] at hf0
          refine r_subk [0] (lv' := [(0, .ref v0)]) rfl ?_
          exact J40 h v0 hf0
        · rw [if_neg c13] at hf0
          refine r_iload_n C dX11_tally_32 rfl ?_
          refine r_iconst (v := 3) C dX11_tally_33 (by decide) ?_
          obtain ⟨t14, e15, hf0⟩ := ob hf0
          refine r_cS (rest := []) (st2 := [.int t14]) C (s_X11_below e15) mk_X11_below sm_X11_below lk_X11_119 rfl rfl rfl dX11_tally_34 (Nat.le_of_ble_eq_true rfl) ⟨Nat.le_of_ble_eq_true rfl, Nat.le_of_ble_eq_true rfl⟩ ⟨Nat.le_of_ble_eq_true rfl, Nat.le_of_ble_eq_true rfl⟩ ?_
          refine r_ifne (tgt := 46) C dX11_tally_37 (by decide) (fun c16 => ?_) (fun c16 => ?_)
          · rw [if_neg c16] at hf0
            refine r_aload_n C dX11_tally_46 rfl ?_
            obtain ⟨u18, e17, hf0⟩ := ob hf0
            obtain ⟨t19, e20, hf0⟩ := ob hf0
            refine r_cV (ci := 11) (rest := []) (st2 := [.int t19]) C (s_X11_canSit e20) mk_X11_canSit rfl (ck_k e17) (by decide) im_X11_canSit sl_X11_canSit lk_X11_353 rfl rfl rfl dX11_tally_47 (Nat.le_of_ble_eq_true rfl) ⟨Nat.le_of_ble_eq_true rfl, Nat.le_of_ble_eq_true rfl⟩ ⟨Nat.le_of_ble_eq_true rfl, Nat.le_of_ble_eq_true rfl⟩ ?_
            refine r_ifne (tgt := 60) C dX11_tally_50 (by decide) (fun c21 => ?_) (fun c21 => ?_)
            · rw [if_neg c21] at hf0
              refine r_iconst (v := 0) C dX11_tally_60 (by decide) ?_
              refine r_istore (lv' := [(4, .int (0 : Int32)), (0, .ref v0), (1, .int v1), (2, .int v2), (3, .int v3)]) C dX11_tally_61 (by decide) rfl rfl ?_
              refine r_iconst (v := 0) C dX11_tally_63 (by decide) ?_
              refine r_istore (lv' := [(5, .int (0 : Int32)), (4, .int (0 : Int32)), (0, .ref v0), (1, .int v1), (2, .int v2), (3, .int v3)]) C dX11_tally_64 (by decide) rfl rfl ?_
              obtain ⟨y22, y23, hl66, hf0⟩ := ob2 hf0
              have L66 : ∀ (n : Nat) (t24 : Int32) (t25 : Int32) (h26 : aH), whileL n (fun q : Int32 × Int32 × aH => f_X11_tally_b66 v0 v1 v2 v3 q.1 q.2.1 q.2.2) (t24, t25, h26) = some (y22, y23) → gW p l e (rmO 6 0 0) s m args below meth c (MQ below (eQ D cA B Hb out.2 (some (.int out.1))) args s 0 0 (fun q => B ≤ q)) D cA B Hb 6 h26 66 [(0, .ref v0), (1, .int v1), (2, .int v2), (3, .int v3), (4, .int t24), (5, .int t25)] [] 0 0 := by
                intro n
                induction n with
                | zero => intro t24 t25 h26 hz; cases hz
                | succ n ih66 =>
                  intro t24 t25 h26 hz
                  obtain ⟨x66, hf1, hk66⟩ := wl hz
                  replace hf1 : f_X11_tally_b66 v0 v1 v2 v3 t24 t25 h26 = some x66 := hf1
                  unfold f_X11_tally_b66 at hf1
                  have J98 : ∀ (h27 : aH) (t28 : Int32) (t29 : Int32), f_X11_tally_j98 h27 v0 v1 v2 v3 t28 t29 = some x66 → gW p l e (rmO 6 0 0) s m args below meth c (MQ below (eQ D cA B Hb out.2 (some (.int out.1))) args s 0 0 (fun q => B ≤ q)) D cA B Hb 6 h27 98 [(0, .ref v0), (1, .int v1), (2, .int v2), (3, .int v3), (4, .int t28), (5, .int t29)] [] 0 0 := by
                    intro h27 t28 t29 hf1
                    unfold f_X11_tally_j98 at hf1
                    obtain ⟨t30, e31, hf1⟩ := ob hf1
                    refine r_iinc (lv' := [(5, .int t30), (0, .ref v0), (1, .int v1), (2, .int v2), (3, .int v3), (4, .int t28)]) C dX11_tally_98 rfl e31 (by decide) rfl ?_
                    refine r_goto (tgt := 66) C dX11_tally_101 (by decide) ?_
                    obtain rfl := so hf1
                    refine r_subk [1, 2, 3, 4, 5, 0] (lv' := [(0, .ref v0), (1, .int v1), (2, .int v2), (3, .int v3), (4, .int t28), (5, .int t30)]) rfl ?_
                    exact ih66 t28 t30 h27 hk66
                  refine r_iload C dX11_tally_66 rfl ?_
                  refine r_iload_n C dX11_tally_68 rfl ?_
                  refine r_icmp_ge (tgt := 104) C dX11_tally_69 (by decide) (fun c32 => ?_) (fun c32 => ?_)
                  · rw [if_pos c32] at hf1
                    obtain rfl := so hf1
                    obtain ⟨rfl, rfl⟩ := so2 (show some (t24, h26) = some (y22, y23) from hk66)
                    refine r_aload_n C dX11_tally_104 rfl ?_
                    refine r_iload C dX11_tally_105 rfl ?_
                    obtain ⟨u34, e33, hf0⟩ := ob hf0
                    obtain ⟨t35, h36, e37, hf0⟩ := ob2 hf0
                    refine r_cV (ci := 11) (rest := []) (st2 := [.int t35]) C (s_X11_give e37) mk_X11_give rfl (ck_k e33) (by decide) im_X11_give sl_X11_give lk_X11_179 rfl rfl rfl dX11_tally_107 (Nat.le_of_ble_eq_true rfl) ⟨Nat.le_of_ble_eq_true rfl, Nat.le_of_ble_eq_true rfl⟩ ⟨Nat.le_of_ble_eq_true rfl, Nat.le_of_ble_eq_true rfl⟩ ?_
                    obtain rfl := so hf0
                    exact r_iret C dX11_tally_110
                  · rw [if_neg c32] at hf1
                    refine r_aload_n C dX11_tally_72 rfl ?_
                    obtain ⟨t38, e39, hf1⟩ := ob hf1
                    refine r_getR C fk_X11_108 rfl dX11_tally_73 e39 ?_
                    refine r_aload_n C dX11_tally_76 rfl ?_
                    obtain ⟨t40, e41, hf1⟩ := ob hf1
                    refine r_getR C fk_X11_74 rfl dX11_tally_77 e41 ?_
                    refine r_aload_n C dX11_tally_80 rfl ?_
                    obtain ⟨t42, e43, hf1⟩ := ob hf1
                    refine r_getR C fk_X11_45 rfl dX11_tally_81 e43 ?_
                    refine r_iload_n C dX11_tally_84 rfl ?_
                    refine r_iload C dX11_tally_85 rfl ?_
                    refine r_iadd C dX11_tally_87 ?_
                    obtain ⟨u45, e44, hf1⟩ := ob hf1
                    obtain ⟨t46, h47, e48, hf1⟩ := ob2 hf1
                    refine r_cV (ci := 10) (rest := []) (st2 := [.int t46]) C (s_X10_holdCourt e48) mk_X10_holdCourt rfl (ck_k e44) (by decide) im_X10_holdCourt sl_X10_holdCourt lk_X11_356 rfl rfl rfl dX11_tally_88 (Nat.le_of_ble_eq_true rfl) ⟨Nat.le_of_ble_eq_true rfl, Nat.le_of_ble_eq_true rfl⟩ ⟨Nat.le_of_ble_eq_true rfl, Nat.le_of_ble_eq_true rfl⟩ ?_
                    refine r_iload_n C dX11_tally_91 rfl ?_
                    refine r_icmp_ne (tgt := 98) C dX11_tally_92 (by decide) (fun c49 => ?_) (fun c49 => ?_)
                    · rw [if_neg c49] at hf1
                      exact J98 h47 t24 t25 hf1
                    · rw [if_pos c49] at hf1
                      obtain ⟨t50, e51, hf1⟩ := ob hf1
                      refine r_iinc (lv' := [(4, .int t50), (0, .ref v0), (1, .int v1), (2, .int v2), (3, .int v3), (5, .int t25)]) C dX11_tally_95 rfl e51 (by decide) rfl ?_
                      refine r_subk [1, 2, 3, 4, 0, 5] (lv' := [(0, .ref v0), (1, .int v1), (2, .int v2), (3, .int v3), (4, .int t50), (5, .int t25)]) rfl ?_
                      exact J98 h47 t50 t25 hf1
              refine r_subk [2, 3, 4, 5, 1, 0] (lv' := [(0, .ref v0), (1, .int v1), (2, .int v2), (3, .int v3), (4, .int (0 : Int32)), (5, .int (0 : Int32))]) rfl ?_
              exact L66 wN (0 : Int32) (0 : Int32) h hl66
            · rw [if_pos c21] at hf0
              refine r_aload_n C dX11_tally_53 rfl ?_
              refine r_bipush (v := 6) C dX11_tally_54 (by decide) ?_
              obtain ⟨u53, e52, hf0⟩ := ob hf0
              obtain ⟨t54, h55, e56, hf0⟩ := ob2 hf0
              refine r_cV (ci := 11) (rest := []) (st2 := [.int t54]) C (s_X11_refuse e56) mk_X11_refuse rfl (ck_k e52) (by decide) im_X11_refuse sl_X11_refuse lk_X11_142 rfl rfl rfl dX11_tally_56 (Nat.le_of_ble_eq_true rfl) ⟨Nat.le_of_ble_eq_true rfl, Nat.le_of_ble_eq_true rfl⟩ ⟨Nat.le_of_ble_eq_true rfl, Nat.le_of_ble_eq_true rfl⟩ ?_
              obtain rfl := so hf0
              exact r_iret C dX11_tally_59
          · rw [if_pos c16] at hf0
            refine r_subk [0] (lv' := [(0, .ref v0)]) rfl ?_
            exact J40 h v0 hf0
def f_X11_mark (h : aH) (v0 : Nat) : Option (Int32 × aH) := (gI h 11 v0 14).bind fun t1 => if t1 < (3 : Int32) then (gR h 11 v0 9).bind fun t2 => (gI h 11 v0 14).bind fun t3 => (lQ h 25 t2 t3).bind fun t4 => (gR h 11 v0 11).bind fun t5 => (gR h 11 v0 12).bind fun t6 => (gR h 11 v0 6).bind fun t7 => (gR h 3 t7 0).bind fun t8 => (ck h 5 t4).bind fun _ => (f_X5_keep h t4 t5 t6 t8).bind fun h9 => (gI h9 11 v0 14).bind fun t10 => (pI h9 11 v0 14 (t10 + (1 : Int32))).bind fun h11 => (gI h11 11 v0 14).bind fun t12 => (ck h11 11 v0).bind fun _ => bd2 (f_X11_give h11 v0 t12) fun t13 h14 => some (t13, h14) else (ck h 11 v0).bind fun _ => bd2 (f_X11_refuse h v0 (4 : Int32)) fun t15 h16 => some (t15, h16)
theorem s_X11_mark {h : aH} {v0 : Nat} {out : Int32 × aH} (hf0 : f_X11_mark h v0 = some out) : EV 3 yX11_mark cX11_mark 1 (some .int) h [.ref v0] (some (.int out.1)) out.2 0 0 := by
  refine EV.of (own := RX11) (lv0 := [(0, .ref v0)]) (by decide +kernel) rfl rfl (Nat.le_of_ble_eq_true rfl) ?_
  intro p l e s m args below meth c D cA B Hb C hin
  unfold f_X11_mark at hf0
  refine r_aload_n C dX11_mark_0 rfl ?_
  obtain ⟨t1, e2, hf0⟩ := ob hf0
  refine r_getI C fk_X11_52 rfl dX11_mark_1 e2 ?_
  refine r_iconst (v := 3) C dX11_mark_4 (by decide) ?_
  refine r_icmp_lt (tgt := 14) C dX11_mark_5 (by decide) (fun c3 => ?_) (fun c3 => ?_)
  · rw [if_pos c3] at hf0
    refine r_aload_n C dX11_mark_14 rfl ?_
    obtain ⟨t4, e5, hf0⟩ := ob hf0
    refine r_getR C fk_X11_35 rfl dX11_mark_15 e5 ?_
    refine r_aload_n C dX11_mark_18 rfl ?_
    obtain ⟨t6, e7, hf0⟩ := ob hf0
    refine r_getI C fk_X11_52 rfl dX11_mark_19 e7 ?_
    obtain ⟨t8, e9, hf0⟩ := ob hf0
    refine r_ldN25 C dX11_mark_22 e9 ?_
    refine r_aload_n C dX11_mark_23 rfl ?_
    obtain ⟨t10, e11, hf0⟩ := ob hf0
    refine r_getR C fk_X11_74 rfl dX11_mark_24 e11 ?_
    refine r_aload_n C dX11_mark_27 rfl ?_
    obtain ⟨t12, e13, hf0⟩ := ob hf0
    refine r_getR C fk_X11_45 rfl dX11_mark_28 e13 ?_
    refine r_aload_n C dX11_mark_31 rfl ?_
    obtain ⟨t14, e15, hf0⟩ := ob hf0
    refine r_getR C fk_X11_92 rfl dX11_mark_32 e15 ?_
    obtain ⟨t16, e17, hf0⟩ := ob hf0
    refine r_getR C fk_X11_214 rfl dX11_mark_35 e17 ?_
    obtain ⟨u19, e18, hf0⟩ := ob hf0
    obtain ⟨h20, e21, hf0⟩ := ob hf0
    refine r_cV (ci := 5) (rest := []) (st2 := []) C (s_X5_keep e21) mk_X5_keep rfl (ck_k e18) (by decide) im_X5_keep sl_X5_keep lk_X11_367 rfl rfl rfl dX11_mark_38 (Nat.le_of_ble_eq_true rfl) ⟨Nat.le_of_ble_eq_true rfl, Nat.le_of_ble_eq_true rfl⟩ ⟨Nat.le_of_ble_eq_true rfl, Nat.le_of_ble_eq_true rfl⟩ ?_
    refine r_aload_n C dX11_mark_41 rfl ?_
    refine r_dup C dX11_mark_42 rfl ?_
    obtain ⟨t22, e23, hf0⟩ := ob hf0
    refine r_getI C fk_X11_52 rfl dX11_mark_43 e23 ?_
    refine r_iconst (v := 1) C dX11_mark_46 (by decide) ?_
    refine r_iadd C dX11_mark_47 ?_
    obtain ⟨h24, e25, hf0⟩ := ob hf0
    refine r_putI C fk_X11_52 dX11_mark_48 e25 ?_
    refine r_aload_n C dX11_mark_51 rfl ?_
    refine r_aload_n C dX11_mark_52 rfl ?_
    obtain ⟨t26, e27, hf0⟩ := ob hf0
    refine r_getI C fk_X11_52 rfl dX11_mark_53 e27 ?_
    obtain ⟨u29, e28, hf0⟩ := ob hf0
    obtain ⟨t30, h31, e32, hf0⟩ := ob2 hf0
    refine r_cV (ci := 11) (rest := []) (st2 := [.int t30]) C (s_X11_give e32) mk_X11_give rfl (ck_k e28) (by decide) im_X11_give sl_X11_give lk_X11_179 rfl rfl rfl dX11_mark_56 (Nat.le_of_ble_eq_true rfl) ⟨Nat.le_of_ble_eq_true rfl, Nat.le_of_ble_eq_true rfl⟩ ⟨Nat.le_of_ble_eq_true rfl, Nat.le_of_ble_eq_true rfl⟩ ?_
    obtain rfl := so hf0
    exact r_iret C dX11_mark_59
  · rw [if_neg c3] at hf0
    refine r_aload_n C dX11_mark_8 rfl ?_
    refine r_iconst (v := 4) C dX11_mark_9 (by decide) ?_
    obtain ⟨u34, e33, hf0⟩ := ob hf0
    obtain ⟨t35, h36, e37, hf0⟩ := ob2 hf0
    refine r_cV (ci := 11) (rest := []) (st2 := [.int t35]) C (s_X11_refuse e37) mk_X11_refuse rfl (ck_k e33) (by decide) im_X11_refuse sl_X11_refuse lk_X11_142 rfl rfl rfl dX11_mark_10 (Nat.le_of_ble_eq_true rfl) ⟨Nat.le_of_ble_eq_true rfl, Nat.le_of_ble_eq_true rfl⟩ ⟨Nat.le_of_ble_eq_true rfl, Nat.le_of_ble_eq_true rfl⟩ ?_
    obtain rfl := so hf0
    exact r_iret C dX11_mark_13
def f_X11_back (h : aH) (v0 : Nat) : Option (Int32 × aH) := (gI h 11 v0 14).bind fun t1 => if t1 = 0 then (ck h 11 v0).bind fun _ => bd2 (f_X11_refuse h v0 (6 : Int32)) fun t19 h20 => some (t19, h20) else (gI h 11 v0 14).bind fun t2 => (pI h 11 v0 14 (t2 - (1 : Int32))).bind fun h3 => (gR h3 11 v0 9).bind fun t4 => (gI h3 11 v0 14).bind fun t5 => (lQ h3 25 t4 t5).bind fun t6 => (gR h3 5 t6 2).bind fun t7 => (pR h3 11 v0 11 t7).bind fun h8 => (gR h8 11 v0 12).bind fun t9 => (gR h8 5 t6 0).bind fun t10 => (ck h8 8 t9).bind fun _ => (f_X8_copyFrom h8 t9 t10).bind fun h11 => (gR h11 11 v0 6).bind fun t12 => (gR h11 5 t6 2).bind fun t13 => (gR h11 5 t6 1).bind fun t14 => (ck h11 3 t12).bind fun _ => (f_X3_resume h11 t12 t13 t14).bind fun h15 => (gI h15 11 v0 14).bind fun t16 => (ck h15 11 v0).bind fun _ => bd2 (f_X11_give h15 v0 t16) fun t17 h18 => some (t17, h18)
theorem s_X11_back {h : aH} {v0 : Nat} {out : Int32 × aH} (hf0 : f_X11_back h v0 = some out) : EV 5 yX11_back cX11_back 2 (some .int) h [.ref v0] (some (.int out.1)) out.2 0 0 := by
  refine EV.of (own := RX11) (lv0 := [(0, .ref v0)]) (by decide +kernel) rfl rfl (Nat.le_of_ble_eq_true rfl) ?_
  intro p l e s m args below meth c D cA B Hb C hin
  unfold f_X11_back at hf0
  refine r_aload_n C dX11_back_0 rfl ?_
  obtain ⟨t1, e2, hf0⟩ := ob hf0
  refine r_getI C fk_X11_52 rfl dX11_back_1 e2 ?_
  refine r_ifne (tgt := 14) C dX11_back_4 (by decide) (fun c3 => ?_) (fun c3 => ?_)
  · rw [if_neg c3] at hf0
    refine r_aload_n C dX11_back_14 rfl ?_
    refine r_dup C dX11_back_15 rfl ?_
    obtain ⟨t4, e5, hf0⟩ := ob hf0
    refine r_getI C fk_X11_52 rfl dX11_back_16 e5 ?_
    refine r_iconst (v := 1) C dX11_back_19 (by decide) ?_
    refine r_isub C dX11_back_20 ?_
    obtain ⟨h6, e7, hf0⟩ := ob hf0
    refine r_putI C fk_X11_52 dX11_back_21 e7 ?_
    refine r_aload_n C dX11_back_24 rfl ?_
    obtain ⟨t8, e9, hf0⟩ := ob hf0
    refine r_getR C fk_X11_35 rfl dX11_back_25 e9 ?_
    refine r_aload_n C dX11_back_28 rfl ?_
    obtain ⟨t10, e11, hf0⟩ := ob hf0
    refine r_getI C fk_X11_52 rfl dX11_back_29 e11 ?_
    obtain ⟨t12, e13, hf0⟩ := ob hf0
    refine r_ldN25 C dX11_back_32 e13 ?_
    refine r_astore_n (lv' := [(1, .ref t12), (0, .ref v0)]) C dX11_back_33 (by decide) rfl rfl ?_
    refine r_aload_n C dX11_back_34 rfl ?_
    refine r_aload_n C dX11_back_35 rfl ?_
    obtain ⟨t14, e15, hf0⟩ := ob hf0
    refine r_getR C fk_X11_267 rfl dX11_back_36 e15 ?_
    obtain ⟨h16, e17, hf0⟩ := ob hf0
    refine r_putR C fk_X11_74 (Or.inl ⟨_, rfl⟩) dX11_back_39 e17 ?_
    refine r_aload_n C dX11_back_42 rfl ?_
    obtain ⟨t18, e19, hf0⟩ := ob hf0
    refine r_getR C fk_X11_45 rfl dX11_back_43 e19 ?_
    refine r_aload_n C dX11_back_46 rfl ?_
    obtain ⟨t20, e21, hf0⟩ := ob hf0
    refine r_getR C fk_X11_371 rfl dX11_back_47 e21 ?_
    obtain ⟨u23, e22, hf0⟩ := ob hf0
    obtain ⟨h24, e25, hf0⟩ := ob hf0
    refine r_cV (ci := 8) (rest := []) (st2 := []) C (s_X8_copyFrom e25) mk_X8_copyFrom rfl (ck_k e22) (by decide) im_X8_copyFrom sl_X8_copyFrom lk_X11_374 rfl rfl rfl dX11_back_50 (Nat.le_of_ble_eq_true rfl) ⟨Nat.le_of_ble_eq_true rfl, Nat.le_of_ble_eq_true rfl⟩ ⟨Nat.le_of_ble_eq_true rfl, Nat.le_of_ble_eq_true rfl⟩ ?_
    refine r_aload_n C dX11_back_53 rfl ?_
    obtain ⟨t26, e27, hf0⟩ := ob hf0
    refine r_getR C fk_X11_92 rfl dX11_back_54 e27 ?_
    refine r_aload_n C dX11_back_57 rfl ?_
    obtain ⟨t28, e29, hf0⟩ := ob hf0
    refine r_getR C fk_X11_267 rfl dX11_back_58 e29 ?_
    refine r_aload_n C dX11_back_61 rfl ?_
    obtain ⟨t30, e31, hf0⟩ := ob hf0
    refine r_getR C fk_X11_378 rfl dX11_back_62 e31 ?_
    obtain ⟨u33, e32, hf0⟩ := ob hf0
    obtain ⟨h34, e35, hf0⟩ := ob hf0
    refine r_cV (ci := 3) (rest := []) (st2 := []) C (s_X3_resume e35) mk_X3_resume rfl (ck_k e32) (by decide) im_X3_resume sl_X3_resume lk_X11_379 rfl rfl rfl dX11_back_65 (Nat.le_of_ble_eq_true rfl) ⟨Nat.le_of_ble_eq_true rfl, Nat.le_of_ble_eq_true rfl⟩ ⟨Nat.le_of_ble_eq_true rfl, Nat.le_of_ble_eq_true rfl⟩ ?_
    refine r_aload_n C dX11_back_68 rfl ?_
    refine r_aload_n C dX11_back_69 rfl ?_
    obtain ⟨t36, e37, hf0⟩ := ob hf0
    refine r_getI C fk_X11_52 rfl dX11_back_70 e37 ?_
    obtain ⟨u39, e38, hf0⟩ := ob hf0
    obtain ⟨t40, h41, e42, hf0⟩ := ob2 hf0
    refine r_cV (ci := 11) (rest := []) (st2 := [.int t40]) C (s_X11_give e42) mk_X11_give rfl (ck_k e38) (by decide) im_X11_give sl_X11_give lk_X11_179 rfl rfl rfl dX11_back_73 (Nat.le_of_ble_eq_true rfl) ⟨Nat.le_of_ble_eq_true rfl, Nat.le_of_ble_eq_true rfl⟩ ⟨Nat.le_of_ble_eq_true rfl, Nat.le_of_ble_eq_true rfl⟩ ?_
    obtain rfl := so hf0
    exact r_iret C dX11_back_76
  · rw [if_pos c3] at hf0
    refine r_aload_n C dX11_back_7 rfl ?_
    refine r_bipush (v := 6) C dX11_back_8 (by decide) ?_
    obtain ⟨u44, e43, hf0⟩ := ob hf0
    obtain ⟨t45, h46, e47, hf0⟩ := ob2 hf0
    refine r_cV (ci := 11) (rest := []) (st2 := [.int t45]) C (s_X11_refuse e47) mk_X11_refuse rfl (ck_k e43) (by decide) im_X11_refuse sl_X11_refuse lk_X11_142 rfl rfl rfl dX11_back_10 (Nat.le_of_ble_eq_true rfl) ⟨Nat.le_of_ble_eq_true rfl, Nat.le_of_ble_eq_true rfl⟩ ⟨Nat.le_of_ble_eq_true rfl, Nat.le_of_ble_eq_true rfl⟩ ?_
    obtain rfl := so hf0
    exact r_iret C dX11_back_13
def f_X12_asNew_b2 (v0 : Nat) (v1 : Int32) (h : aH) : Option ((Int32 × aH) ⊕ (aH)) := if (400 : Int32) ≤ v1 then some (.inr h) else (gR h 12 v0 0).bind fun t1 => (sI h t1 ((1600 : Int32) + v1) (0 : Int32)).bind fun h2 => (some (v1 + (1 : Int32))).bind fun t3 => some (.inl (t3, h2))
def f_X12_asNew_l2 (v0 : Nat) (v1 : Int32) (h : aH) : Option (aH) := whileL wN (fun q : Int32 × aH => f_X12_asNew_b2 v0 q.1 q.2) (v1, h)
def f_X12_asNew_b28 (v0 : Nat) (v1 : Int32) (h : aH) : Option ((Int32 × aH) ⊕ (aH)) := if (52 : Int32) ≤ v1 then some (.inr h) else (gR h 12 v0 1).bind fun t5 => (sJ h t5 ((208 : Int32) + v1) (0 : Int64)).bind fun h6 => (some (v1 + (1 : Int32))).bind fun t7 => some (.inl (t7, h6))
def f_X12_asNew_l28 (v0 : Nat) (v1 : Int32) (h : aH) : Option (aH) := whileL wN (fun q : Int32 × aH => f_X12_asNew_b28 v0 q.1 q.2) (v1, h)
def f_X12_asNew (h : aH) (v0 : Nat) : Option (aH) := (f_X12_asNew_l2 v0 (0 : Int32) h).bind fun h4 => (f_X12_asNew_l28 v0 (0 : Int32) h4).bind fun h8 => (gR h8 12 v0 0).bind fun t9 => (sI h8 t9 (1602 : Int32) (1 : Int32)).bind fun h10 => (gR h10 12 v0 0).bind fun t11 => (sI h10 t11 (1607 : Int32) (-1 : Int32)).bind fun h12 => (gR h12 12 v0 1).bind fun t13 => (sJ h12 t13 (208 : Int32) (1 : Int64)).bind fun h14 => some h14
theorem s_X12_asNew {h : aH} {v0 : Nat} {out : aH} (hf0 : f_X12_asNew h v0 = some out) : EV 0 yX12_asNew cX12_asNew 2 none h [.ref v0] none out 0 0 := by
  refine EV.of (own := RX12) (lv0 := [(0, .ref v0)]) (by decide +kernel) rfl rfl (Nat.le_of_ble_eq_true rfl) ?_
  intro p l e s m args below meth c D cA B Hb C hin
  unfold f_X12_asNew at hf0
  refine r_iconst (v := 0) C dX12_asNew_0 (by decide) ?_
  refine r_istore_n (lv' := [(1, .int (0 : Int32)), (0, .ref v0)]) C dX12_asNew_1 (by decide) rfl rfl ?_
  obtain ⟨y1, hl2, hf0⟩ := ob hf0
  have L2 : ∀ (n : Nat) (t2 : Int32) (h3 : aH), whileL n (fun q : Int32 × aH => f_X12_asNew_b2 v0 q.1 q.2) (t2, h3) = some y1 → gW p l e (rmO 0 0 0) s m args below meth c (MQ below (eQ D cA B Hb out none) args s 0 0 (fun q => B ≤ q)) D cA B Hb 2 h3 2 [(0, .ref v0), (1, .int t2)] [] 0 0 := by
    intro n
    induction n with
    | zero => intro t2 h3 hz; cases hz
    | succ n ih2 =>
      intro t2 h3 hz
      obtain ⟨x2, hf1, hk2⟩ := wl hz
      replace hf1 : f_X12_asNew_b2 v0 t2 h3 = some x2 := hf1
      unfold f_X12_asNew_b2 at hf1
      refine r_iload_n C dX12_asNew_2 rfl ?_
      refine r_sipush (v := 400) C dX12_asNew_3 (by decide) ?_
      refine r_icmp_ge (tgt := 26) C dX12_asNew_6 (by decide) (fun c4 => ?_) (fun c4 => ?_)
      · rw [if_pos c4] at hf1
        obtain rfl := so hf1
        obtain rfl := so (show some h3 = some y1 from hk2)
        refine r_iconst (v := 0) C dX12_asNew_26 (by decide) ?_
        refine r_istore_n (lv' := [(1, .int (0 : Int32)), (0, .ref v0)]) C dX12_asNew_27 (by decide) rfl rfl ?_
        obtain ⟨y5, hl28, hf0⟩ := ob hf0
        have L28 : ∀ (n : Nat) (t6 : Int32) (h7 : aH), whileL n (fun q : Int32 × aH => f_X12_asNew_b28 v0 q.1 q.2) (t6, h7) = some y5 → gW p l e (rmO 0 0 0) s m args below meth c (MQ below (eQ D cA B Hb out none) args s 0 0 (fun q => B ≤ q)) D cA B Hb 2 h7 28 [(0, .ref v0), (1, .int t6)] [] 0 0 := by
          intro n
          induction n with
          | zero => intro t6 h7 hz; cases hz
          | succ n ih28 =>
            intro t6 h7 hz
            obtain ⟨x28, hf1, hk28⟩ := wl hz
            replace hf1 : f_X12_asNew_b28 v0 t6 h7 = some x28 := hf1
            unfold f_X12_asNew_b28 at hf1
            refine r_iload_n C dX12_asNew_28 rfl ?_
            refine r_bipush (v := 52) C dX12_asNew_29 (by decide) ?_
            refine r_icmp_ge (tgt := 51) C dX12_asNew_31 (by decide) (fun c8 => ?_) (fun c8 => ?_)
            · rw [if_pos c8] at hf1
              obtain rfl := so hf1
              obtain rfl := so (show some h7 = some y5 from hk28)
              refine r_aload_n C dX12_asNew_51 rfl ?_
              obtain ⟨t9, e10, hf0⟩ := ob hf0
              refine r_getR C fk_X12_7 rfl dX12_asNew_52 e10 ?_
              refine r_sipush (v := 1602) C dX12_asNew_55 (by decide) ?_
              refine r_iconst (v := 1) C dX12_asNew_58 (by decide) ?_
              obtain ⟨h11, e12, hf0⟩ := ob hf0
              refine r_stI C dX12_asNew_59 e12 ?_
              refine r_aload_n C dX12_asNew_60 rfl ?_
              obtain ⟨t13, e14, hf0⟩ := ob hf0
              refine r_getR C fk_X12_7 rfl dX12_asNew_61 e14 ?_
              refine r_sipush (v := 1607) C dX12_asNew_64 (by decide) ?_
              refine r_iconst (v := -1) C dX12_asNew_67 (by decide) ?_
              obtain ⟨h15, e16, hf0⟩ := ob hf0
              refine r_stI C dX12_asNew_68 e16 ?_
              refine r_aload_n C dX12_asNew_69 rfl ?_
              obtain ⟨t17, e18, hf0⟩ := ob hf0
              refine r_getR C fk_X12_13 rfl dX12_asNew_70 e18 ?_
              refine r_sipush (v := 208) C dX12_asNew_73 (by decide) ?_
              refine r_lconst (v := 1) C dX12_asNew_76 (by decide) ?_
              obtain ⟨h19, e20, hf0⟩ := ob hf0
              refine r_stJ C dX12_asNew_77 e20 ?_
              obtain rfl := so hf0
              exact r_vret C dX12_asNew_78
            · rw [if_neg c8] at hf1
              refine r_aload_n C dX12_asNew_34 rfl ?_
              obtain ⟨t21, e22, hf1⟩ := ob hf1
              refine r_getR C fk_X12_13 rfl dX12_asNew_35 e22 ?_
              refine r_sipush (v := 208) C dX12_asNew_38 (by decide) ?_
              refine r_iload_n C dX12_asNew_41 rfl ?_
              refine r_iadd C dX12_asNew_42 ?_
              refine r_lconst (v := 0) C dX12_asNew_43 (by decide) ?_
              obtain ⟨h23, e24, hf1⟩ := ob hf1
              refine r_stJ C dX12_asNew_44 e24 ?_
              obtain ⟨t25, e26, hf1⟩ := ob hf1
              refine r_iinc (lv' := [(1, .int t25), (0, .ref v0)]) C dX12_asNew_45 rfl e26 (by decide) rfl ?_
              refine r_goto (tgt := 28) C dX12_asNew_48 (by decide) ?_
              obtain rfl := so hf1
              refine r_subk [1, 0] (lv' := [(0, .ref v0), (1, .int t25)]) rfl ?_
              exact ih28 t25 h23 hk28
        refine r_subk [1, 0] (lv' := [(0, .ref v0), (1, .int (0 : Int32))]) rfl ?_
        exact L28 wN (0 : Int32) h3 hl28
      · rw [if_neg c4] at hf1
        refine r_aload_n C dX12_asNew_9 rfl ?_
        obtain ⟨t27, e28, hf1⟩ := ob hf1
        refine r_getR C fk_X12_7 rfl dX12_asNew_10 e28 ?_
        refine r_sipush (v := 1600) C dX12_asNew_13 (by decide) ?_
        refine r_iload_n C dX12_asNew_16 rfl ?_
        refine r_iadd C dX12_asNew_17 ?_
        refine r_iconst (v := 0) C dX12_asNew_18 (by decide) ?_
        obtain ⟨h29, e30, hf1⟩ := ob hf1
        refine r_stI C dX12_asNew_19 e30 ?_
        obtain ⟨t31, e32, hf1⟩ := ob hf1
        refine r_iinc (lv' := [(1, .int t31), (0, .ref v0)]) C dX12_asNew_20 rfl e32 (by decide) rfl ?_
        refine r_goto (tgt := 2) C dX12_asNew_23 (by decide) ?_
        obtain rfl := so hf1
        refine r_subk [1, 0] (lv' := [(0, .ref v0), (1, .int t31)]) rfl ?_
        exact ih2 t31 h29 hk2
  refine r_subk [1, 0] (lv' := [(0, .ref v0), (1, .int (0 : Int32))]) rfl ?_
  exact L2 wN (0 : Int32) h hl2
def f_X12_inSet (h : aH) (v0 : Nat) (v1 : Int32) (v2 : Int32) : Option (Int32) := (nz (64 : Int32)).bind fun _ => (lJ h v0 (v1 + (v2 / (64 : Int32)))).bind fun t1 => (nz (64 : Int32)).bind fun _ => if (lg_cmp ((t1 >>> (Int32.toInt64 (v2 - v2 / (64 : Int32) * (64 : Int32)) &&& 63)) &&& (1 : Int64)) (1 : Int64)) = 0 then some (1 : Int32) else some (0 : Int32)
theorem s_X12_inSet {h : aH} {v0 : Nat} {v1 : Int32} {v2 : Int32} {out : Int32} (hf0 : f_X12_inSet h v0 v1 v2 = some out) : EV 0 yX12_inSet cX12_inSet 3 (some .boolean) h [.ref v0, .int v1, .int v2] (some (.int out)) h 0 0 := by
  refine EV.of (own := RX12) (lv0 := [(0, .ref v0), (1, .int v1), (2, .int v2)]) (by decide +kernel) rfl rfl (Nat.le_of_ble_eq_true rfl) ?_
  intro p l e s m args below meth c D cA B Hb C hin
  unfold f_X12_inSet at hf0
  refine r_aload_n C dX12_inSet_0 rfl ?_
  refine r_iload_n C dX12_inSet_1 rfl ?_
  refine r_iload_n C dX12_inSet_2 rfl ?_
  refine r_bipush (v := 64) C dX12_inSet_3 (by decide) ?_
  obtain ⟨u2, e1, hf0⟩ := ob hf0
  refine r_idiv C dX12_inSet_5 (nz_k e1) ?_
  refine r_iadd C dX12_inSet_6 ?_
  obtain ⟨t3, e4, hf0⟩ := ob hf0
  refine r_ldJ C dX12_inSet_7 e4 ?_
  refine r_iload_n C dX12_inSet_8 rfl ?_
  refine r_bipush (v := 64) C dX12_inSet_9 (by decide) ?_
  obtain ⟨u6, e5, hf0⟩ := ob hf0
  refine r_irem C dX12_inSet_11 (nz_k e5) ?_
  refine r_lshr C dX12_inSet_12 ?_
  refine r_lconst (v := 1) C dX12_inSet_13 (by decide) ?_
  refine r_land C dX12_inSet_14 ?_
  refine r_lconst (v := 1) C dX12_inSet_15 (by decide) ?_
  refine r_lcmp C dX12_inSet_16 ?_
  refine r_ifne (tgt := 24) C dX12_inSet_17 (by decide) (fun c7 => ?_) (fun c7 => ?_)
  · rw [if_neg c7] at hf0
    refine r_iconst (v := 0) C dX12_inSet_24 (by decide) ?_
    obtain rfl := so hf0
    exact r_zret C dX12_inSet_25 (Or.inl rfl)
  · rw [if_pos c7] at hf0
    refine r_iconst (v := 1) C dX12_inSet_20 (by decide) ?_
    refine r_goto (tgt := 25) C dX12_inSet_21 (by decide) ?_
    obtain rfl := so hf0
    exact r_zret C dX12_inSet_25 (Or.inr rfl)
def f_X12_isPossible (h : aH) (v0 : Nat) (v1 : Int32) : Option (Int32) := (gR h 12 v0 1).bind fun t1 => (f_X12_inSet h t1 (0 : Int32) v1).bind fun t2 => (rZ t2).bind fun t3 => some t3
theorem s_X12_isPossible {h : aH} {v0 : Nat} {v1 : Int32} {out : Int32} (hf0 : f_X12_isPossible h v0 v1 = some out) : EV 1 yX12_isPossible cX12_isPossible 2 (some .boolean) h [.ref v0, .int v1] (some (.int out)) h 0 0 := by
  refine EV.of (own := RX12) (lv0 := [(0, .ref v0), (1, .int v1)]) (by decide +kernel) rfl rfl (Nat.le_of_ble_eq_true rfl) ?_
  intro p l e s m args below meth c D cA B Hb C hin
  unfold f_X12_isPossible at hf0
  refine r_aload_n C dX12_isPossible_0 rfl ?_
  obtain ⟨t1, e2, hf0⟩ := ob hf0
  refine r_getR C fk_X12_13 rfl dX12_isPossible_1 e2 ?_
  refine r_iconst (v := 0) C dX12_isPossible_4 (by decide) ?_
  refine r_iload_n C dX12_isPossible_5 rfl ?_
  obtain ⟨t3, e4, hf0⟩ := ob hf0
  refine r_cS (rest := []) (st2 := [.int t3]) C (s_X12_inSet e4) mk_X12_inSet sm_X12_inSet lk_X12_303 rfl rfl rfl dX12_isPossible_6 (Nat.le_of_ble_eq_true rfl) ⟨Nat.le_of_ble_eq_true rfl, Nat.le_of_ble_eq_true rfl⟩ ⟨Nat.le_of_ble_eq_true rfl, Nat.le_of_ble_eq_true rfl⟩ ?_
  obtain ⟨t5, e6, hf0⟩ := ob hf0
  obtain ⟨rfl, e6z⟩ := rZ_k e6
  obtain rfl := so hf0
  exact r_zret C dX12_isPossible_9 e6z
def f_X12_ofWitness (h : aH) (v0 : Nat) (v1 : Int32) (v2 : Int32) : Option (Int32) := (gR h 12 v0 0).bind fun t1 => (lI h t1 (((76 : Int32) + ((6 : Int32) * v1)) + v2)).bind fun t2 => some t2
theorem s_X12_ofWitness {h : aH} {v0 : Nat} {v1 : Int32} {v2 : Int32} {out : Int32} (hf0 : f_X12_ofWitness h v0 v1 v2 = some out) : EV 0 yX12_ofWitness cX12_ofWitness 3 (some .int) h [.ref v0, .int v1, .int v2] (some (.int out)) h 0 0 := by
  refine EV.of (own := RX12) (lv0 := [(0, .ref v0), (1, .int v1), (2, .int v2)]) (by decide +kernel) rfl rfl (Nat.le_of_ble_eq_true rfl) ?_
  intro p l e s m args below meth c D cA B Hb C hin
  unfold f_X12_ofWitness at hf0
  refine r_aload_n C dX12_ofWitness_0 rfl ?_
  obtain ⟨t1, e2, hf0⟩ := ob hf0
  refine r_getR C fk_X12_7 rfl dX12_ofWitness_1 e2 ?_
  refine r_bipush (v := 76) C dX12_ofWitness_4 (by decide) ?_
  refine r_bipush (v := 6) C dX12_ofWitness_6 (by decide) ?_
  refine r_iload_n C dX12_ofWitness_8 rfl ?_
  refine r_imul C dX12_ofWitness_9 ?_
  refine r_iadd C dX12_ofWitness_10 ?_
  refine r_iload_n C dX12_ofWitness_11 rfl ?_
  refine r_iadd C dX12_ofWitness_12 ?_
  obtain ⟨t3, e4, hf0⟩ := ob hf0
  refine r_ldI C dX12_ofWitness_13 e4 ?_
  obtain rfl := so hf0
  exact r_iret C dX12_ofWitness_14
def f_X12_valueIn_b15 (h : aH) (v0 : Nat) (v1 : Int32) (v3 : Int32) (v4 : Int32) (v5 : Int32) : Option ((Int32 × Int32) ⊕ (Int32)) := if v5 ≤ v3 then some (.inr v4) else (gR h 12 v0 0).bind fun t4 => (lI h t4 ((v1 + (60 : Int32)) + v5)).bind fun t5 => (nz t5).bind fun _ => (some (v4 / t5)).bind fun t6 => (some (v5 + (-1 : Int32))).bind fun t7 => some (.inl (t6, t7))
def f_X12_valueIn_l15 (h : aH) (v0 : Nat) (v1 : Int32) (v3 : Int32) (v4 : Int32) (v5 : Int32) : Option (Int32) := whileL wN (fun q : Int32 × Int32 => f_X12_valueIn_b15 h v0 v1 v3 q.1 q.2) (v4, v5)
def f_X12_valueIn (h : aH) (v0 : Nat) (v1 : Int32) (v2 : Int32) (v3 : Int32) : Option (Int32) := (gR h 12 v0 0).bind fun t1 => (lI h t1 (v1 + (0 : Int32))).bind fun t2 => (some (t2 - (1 : Int32))).bind fun t3 => (f_X12_valueIn_l15 h v0 v1 v3 v2 t3).bind fun t8 => (gR h 12 v0 0).bind fun t9 => (lI h t9 ((v1 + (56 : Int32)) + v3)).bind fun t10 => (gR h 12 v0 0).bind fun t11 => (lI h t11 ((v1 + (60 : Int32)) + v3)).bind fun t12 => (nz t12).bind fun _ => some (t10 + (t8 - t8 / t12 * t12))
theorem s_X12_valueIn {h : aH} {v0 : Nat} {v1 : Int32} {v2 : Int32} {v3 : Int32} {out : Int32} (hf0 : f_X12_valueIn h v0 v1 v2 v3 = some out) : EV 0 yX12_valueIn cX12_valueIn 6 (some .int) h [.ref v0, .int v1, .int v2, .int v3] (some (.int out)) h 0 0 := by
  refine EV.of (own := RX12) (lv0 := [(0, .ref v0), (1, .int v1), (2, .int v2), (3, .int v3)]) (by decide +kernel) rfl rfl (Nat.le_of_ble_eq_true rfl) ?_
  intro p l e s m args below meth c D cA B Hb C hin
  unfold f_X12_valueIn at hf0
  refine r_iload_n C dX12_valueIn_0 rfl ?_
  refine r_istore (lv' := [(4, .int v2), (0, .ref v0), (1, .int v1), (2, .int v2), (3, .int v3)]) C dX12_valueIn_1 (by decide) rfl rfl ?_
  refine r_aload_n C dX12_valueIn_3 rfl ?_
  obtain ⟨t1, e2, hf0⟩ := ob hf0
  refine r_getR C fk_X12_7 rfl dX12_valueIn_4 e2 ?_
  refine r_iload_n C dX12_valueIn_7 rfl ?_
  refine r_iconst (v := 0) C dX12_valueIn_8 (by decide) ?_
  refine r_iadd C dX12_valueIn_9 ?_
  obtain ⟨t3, e4, hf0⟩ := ob hf0
  refine r_ldI C dX12_valueIn_10 e4 ?_
  refine r_iconst (v := 1) C dX12_valueIn_11 (by decide) ?_
  refine r_isub C dX12_valueIn_12 ?_
  obtain ⟨t5, e6, hf0⟩ := ob hf0
  refine r_istore (lv' := [(5, .int t5), (4, .int v2), (0, .ref v0), (1, .int v1), (2, .int v2), (3, .int v3)]) C dX12_valueIn_13 (by decide) e6 rfl ?_
  obtain ⟨y7, hl15, hf0⟩ := ob hf0
  have L15 : ∀ (n : Nat) (t8 : Int32) (t9 : Int32), whileL n (fun q : Int32 × Int32 => f_X12_valueIn_b15 h v0 v1 v3 q.1 q.2) (t8, t9) = some y7 → gW p l e (rmO 0 0 0) s m args below meth c (MQ below (eQ D cA B Hb h (some (.int out))) args s 0 0 (fun q => B ≤ q)) D cA B Hb 6 h 15 [(0, .ref v0), (1, .int v1), (3, .int v3), (4, .int t8), (5, .int t9)] [] 0 0 := by
    intro n
    induction n with
    | zero => intro t8 t9 hz; cases hz
    | succ n ih15 =>
      intro t8 t9 hz
      obtain ⟨x15, hf1, hk15⟩ := wl hz
      replace hf1 : f_X12_valueIn_b15 h v0 v1 v3 t8 t9 = some x15 := hf1
      unfold f_X12_valueIn_b15 at hf1
      refine r_iload C dX12_valueIn_15 rfl ?_
      refine r_iload_n C dX12_valueIn_17 rfl ?_
      refine r_icmp_le (tgt := 44) C dX12_valueIn_18 (by decide) (fun c10 => ?_) (fun c10 => ?_)
      · rw [if_pos c10] at hf1
        obtain rfl := so hf1
        obtain rfl := so (show some t8 = some y7 from hk15)
        refine r_aload_n C dX12_valueIn_44 rfl ?_
        obtain ⟨t11, e12, hf0⟩ := ob hf0
        refine r_getR C fk_X12_7 rfl dX12_valueIn_45 e12 ?_
        refine r_iload_n C dX12_valueIn_48 rfl ?_
        refine r_bipush (v := 56) C dX12_valueIn_49 (by decide) ?_
        refine r_iadd C dX12_valueIn_51 ?_
        refine r_iload_n C dX12_valueIn_52 rfl ?_
        refine r_iadd C dX12_valueIn_53 ?_
        obtain ⟨t13, e14, hf0⟩ := ob hf0
        refine r_ldI C dX12_valueIn_54 e14 ?_
        refine r_iload C dX12_valueIn_55 rfl ?_
        refine r_aload_n C dX12_valueIn_57 rfl ?_
        obtain ⟨t15, e16, hf0⟩ := ob hf0
        refine r_getR C fk_X12_7 rfl dX12_valueIn_58 e16 ?_
        refine r_iload_n C dX12_valueIn_61 rfl ?_
        refine r_bipush (v := 60) C dX12_valueIn_62 (by decide) ?_
        refine r_iadd C dX12_valueIn_64 ?_
        refine r_iload_n C dX12_valueIn_65 rfl ?_
        refine r_iadd C dX12_valueIn_66 ?_
        obtain ⟨t17, e18, hf0⟩ := ob hf0
        refine r_ldI C dX12_valueIn_67 e18 ?_
        obtain ⟨u20, e19, hf0⟩ := ob hf0
        refine r_irem C dX12_valueIn_68 (nz_k e19) ?_
        refine r_iadd C dX12_valueIn_69 ?_
        obtain rfl := so hf0
        exact r_iret C dX12_valueIn_70
      · rw [if_neg c10] at hf1
        refine r_iload C dX12_valueIn_21 rfl ?_
        refine r_aload_n C dX12_valueIn_23 rfl ?_
        obtain ⟨t21, e22, hf1⟩ := ob hf1
        refine r_getR C fk_X12_7 rfl dX12_valueIn_24 e22 ?_
        refine r_iload_n C dX12_valueIn_27 rfl ?_
        refine r_bipush (v := 60) C dX12_valueIn_28 (by decide) ?_
        refine r_iadd C dX12_valueIn_30 ?_
        refine r_iload C dX12_valueIn_31 rfl ?_
        refine r_iadd C dX12_valueIn_33 ?_
        obtain ⟨t23, e24, hf1⟩ := ob hf1
        refine r_ldI C dX12_valueIn_34 e24 ?_
        obtain ⟨u26, e25, hf1⟩ := ob hf1
        refine r_idiv C dX12_valueIn_35 (nz_k e25) ?_
        obtain ⟨t27, e28, hf1⟩ := ob hf1
        refine r_istore (lv' := [(4, .int t27), (0, .ref v0), (1, .int v1), (3, .int v3), (5, .int t9)]) C dX12_valueIn_36 (by decide) e28 rfl ?_
        obtain ⟨t29, e30, hf1⟩ := ob hf1
        refine r_iinc (lv' := [(5, .int t29), (4, .int t27), (0, .ref v0), (1, .int v1), (3, .int v3)]) C dX12_valueIn_38 rfl e30 (by decide) rfl ?_
        refine r_goto (tgt := 15) C dX12_valueIn_41 (by decide) ?_
        obtain rfl := so hf1
        refine r_subk [2, 3, 4, 1, 0] (lv' := [(0, .ref v0), (1, .int v1), (3, .int v3), (4, .int t27), (5, .int t29)]) rfl ?_
        exact ih15 t27 t29 hk15
  refine r_subk [2, 3, 5, 1, 0] (lv' := [(0, .ref v0), (1, .int v1), (3, .int v3), (4, .int v2), (5, .int t5)]) rfl ?_
  exact L15 wN v2 t5 hl15
def f_X12_knowsIn_b2 (v0 : Nat) (v1 : Int32) (v2 : Int32) (v3 : Int32) (h : aH) : Option ((Int32 × aH) ⊕ (aH)) := if (4 : Int32) ≤ v3 then some (.inr h) else (gR h 12 v0 32).bind fun t1 => (sJ h t1 v3 (0 : Int64)).bind fun h2 => (some (v3 + (1 : Int32))).bind fun t3 => some (.inl (t3, h2))
def f_X12_knowsIn_l2 (v0 : Nat) (v1 : Int32) (v2 : Int32) (v3 : Int32) (h : aH) : Option (aH) := whileL wN (fun q : Int32 × aH => f_X12_knowsIn_b2 v0 v1 v2 q.1 q.2) (v3, h)
def f_X12_knowsIn_j127 (h : aH) (v0 : Nat) (v1 : Int32) (v2 : Int32) (v3 : Int32) : Option ((Int32 × aH) ⊕ (aH)) := (some (v3 + (1 : Int32))).bind fun t5 => some (.inl (t5, h))
def f_X12_knowsIn_j96 (h : aH) (v0 : Nat) (v1 : Int32) (v2 : Int32) (v3 : Int32) (v5 : Int32) (s0 : Int32) : Option ((Int32 × Int32) ⊕ (Int32)) := (some (v5 + (1 : Int32))).bind fun t9 => some (.inl (s0, t9))
def f_X12_knowsIn_j95 (h : aH) (v0 : Nat) (v1 : Int32) (v2 : Int32) (v3 : Int32) (v5 : Int32) : Option ((Int32 × Int32) ⊕ (Int32)) := f_X12_knowsIn_j96 h v0 v1 v2 v3 v5 (0 : Int32)
def f_X12_knowsIn_j91 (h : aH) (v0 : Nat) (v1 : Int32) (v2 : Int32) (v3 : Int32) (v5 : Int32) : Option ((Int32 × Int32) ⊕ (Int32)) := f_X12_knowsIn_j96 h v0 v1 v2 v3 v5 (1 : Int32)
def f_X12_knowsIn_b42 (h : aH) (v0 : Nat) (v1 : Int32) (v2 : Int32) (v3 : Int32) (v4 : Int32) (v5 : Int32) : Option ((Int32 × Int32) ⊕ (Int32)) := (gR h 12 v0 0).bind fun t10 => (lI h t10 (0 : Int32)).bind fun t11 => if t11 ≤ v5 then some (.inr v4) else if v4 = 0 then f_X12_knowsIn_j95 h v0 v1 v2 v3 v5 else (ck h 12 v0).bind fun _ => (f_X12_ofWitness h v0 v1 (4 : Int32)).bind fun t12 => if ((t12 >>> (v5 &&& 31)) &&& (1 : Int32)) = 0 then f_X12_knowsIn_j91 h v0 v1 v2 v3 v5 else (ck h 12 v0).bind fun _ => (f_X12_valueIn h v0 (0 : Int32) v3 v5).bind fun t13 => (ck h 12 v0).bind fun _ => (f_X12_valueIn h v0 (0 : Int32) v2 v5).bind fun t14 => if t13 = t14 then f_X12_knowsIn_j91 h v0 v1 v2 v3 v5 else f_X12_knowsIn_j95 h v0 v1 v2 v3 v5
def f_X12_knowsIn_l42 (h : aH) (v0 : Nat) (v1 : Int32) (v2 : Int32) (v3 : Int32) (v4 : Int32) (v5 : Int32) : Option (Int32) := whileL wN (fun q : Int32 × Int32 => f_X12_knowsIn_b42 h v0 v1 v2 v3 q.1 q.2) (v4, v5)
def f_X12_knowsIn_b22 (v0 : Nat) (v1 : Int32) (v2 : Int32) (v3 : Int32) (h : aH) : Option ((Int32 × aH) ⊕ (aH)) := (gR h 12 v0 0).bind fun t6 => (lI h t6 (2 : Int32)).bind fun t7 => if t7 ≤ v3 then some (.inr h) else (ck h 12 v0).bind fun _ => (f_X12_isPossible h v0 v3).bind fun t8 => (f_X12_knowsIn_l42 h v0 v1 v2 v3 t8 (0 : Int32)).bind fun t15 => if t15 = 0 then f_X12_knowsIn_j127 h v0 v1 v2 v3 else (gR h 12 v0 32).bind fun t16 => (nz (64 : Int32)).bind fun _ => (lJ h t16 (v3 / (64 : Int32))).bind fun t17 => (nz (64 : Int32)).bind fun _ => (sJ h t16 (v3 / (64 : Int32)) (t17 ||| ((1 : Int64) <<< (Int32.toInt64 (v3 - v3 / (64 : Int32) * (64 : Int32)) &&& 63)))).bind fun h18 => f_X12_knowsIn_j127 h18 v0 v1 v2 v3
def f_X12_knowsIn_l22 (v0 : Nat) (v1 : Int32) (v2 : Int32) (v3 : Int32) (h : aH) : Option (aH) := whileL wN (fun q : Int32 × aH => f_X12_knowsIn_b22 v0 v1 v2 q.1 q.2) (v3, h)
def f_X12_knowsIn (h : aH) (v0 : Nat) (v1 : Int32) (v2 : Int32) : Option (aH) := (f_X12_knowsIn_l2 v0 v1 v2 (0 : Int32) h).bind fun h4 => (f_X12_knowsIn_l22 v0 v1 v2 (0 : Int32) h4).bind fun h19 => some h19
theorem s_X12_knowsIn {h : aH} {v0 : Nat} {v1 : Int32} {v2 : Int32} {out : aH} (hf0 : f_X12_knowsIn h v0 v1 v2 = some out) : EV 2 yX12_knowsIn cX12_knowsIn 6 none h [.ref v0, .int v1, .int v2] none out 0 0 := by
  refine EV.of (own := RX12) (lv0 := [(0, .ref v0), (1, .int v1), (2, .int v2)]) (by decide +kernel) rfl rfl (Nat.le_of_ble_eq_true rfl) ?_
  intro p l e s m args below meth c D cA B Hb C hin
  unfold f_X12_knowsIn at hf0
  refine r_iconst (v := 0) C dX12_knowsIn_0 (by decide) ?_
  refine r_istore_n (lv' := [(3, .int (0 : Int32)), (0, .ref v0), (1, .int v1), (2, .int v2)]) C dX12_knowsIn_1 (by decide) rfl rfl ?_
  obtain ⟨y1, hl2, hf0⟩ := ob hf0
  have L2 : ∀ (n : Nat) (t2 : Int32) (h3 : aH), whileL n (fun q : Int32 × aH => f_X12_knowsIn_b2 v0 v1 v2 q.1 q.2) (t2, h3) = some y1 → gW p l e (rmO 2 0 0) s m args below meth c (MQ below (eQ D cA B Hb out none) args s 0 0 (fun q => B ≤ q)) D cA B Hb 6 h3 2 [(0, .ref v0), (1, .int v1), (2, .int v2), (3, .int t2)] [] 0 0 := by
    intro n
    induction n with
    | zero => intro t2 h3 hz; cases hz
    | succ n ih2 =>
      intro t2 h3 hz
      obtain ⟨x2, hf1, hk2⟩ := wl hz
      replace hf1 : f_X12_knowsIn_b2 v0 v1 v2 t2 h3 = some x2 := hf1
      unfold f_X12_knowsIn_b2 at hf1
      refine r_iload_n C dX12_knowsIn_2 rfl ?_
      refine r_iconst (v := 4) C dX12_knowsIn_3 (by decide) ?_
      refine r_icmp_ge (tgt := 20) C dX12_knowsIn_4 (by decide) (fun c4 => ?_) (fun c4 => ?_)
      · rw [if_pos c4] at hf1
        obtain rfl := so hf1
        obtain rfl := so (show some h3 = some y1 from hk2)
        refine r_iconst (v := 0) C dX12_knowsIn_20 (by decide) ?_
        refine r_istore_n (lv' := [(3, .int (0 : Int32)), (0, .ref v0), (1, .int v1), (2, .int v2)]) C dX12_knowsIn_21 (by decide) rfl rfl ?_
        obtain ⟨y5, hl22, hf0⟩ := ob hf0
        have L22 : ∀ (n : Nat) (t6 : Int32) (h7 : aH), whileL n (fun q : Int32 × aH => f_X12_knowsIn_b22 v0 v1 v2 q.1 q.2) (t6, h7) = some y5 → gW p l e (rmO 2 0 0) s m args below meth c (MQ below (eQ D cA B Hb out none) args s 0 0 (fun q => B ≤ q)) D cA B Hb 6 h7 22 [(0, .ref v0), (1, .int v1), (2, .int v2), (3, .int t6)] [] 0 0 := by
          intro n
          induction n with
          | zero => intro t6 h7 hz; cases hz
          | succ n ih22 =>
            intro t6 h7 hz
            obtain ⟨x22, hf1, hk22⟩ := wl hz
            replace hf1 : f_X12_knowsIn_b22 v0 v1 v2 t6 h7 = some x22 := hf1
            unfold f_X12_knowsIn_b22 at hf1
            have J127 : ∀ (h8 : aH) (t9 : Int32), f_X12_knowsIn_j127 h8 v0 v1 v2 t9 = some x22 → gW p l e (rmO 2 0 0) s m args below meth c (MQ below (eQ D cA B Hb out none) args s 0 0 (fun q => B ≤ q)) D cA B Hb 6 h8 127 [(0, .ref v0), (1, .int v1), (2, .int v2), (3, .int t9)] [] 0 0 := by
              intro h8 t9 hf1
              unfold f_X12_knowsIn_j127 at hf1
              obtain ⟨t10, e11, hf1⟩ := ob hf1
              refine r_iinc (lv' := [(3, .int t10), (0, .ref v0), (1, .int v1), (2, .int v2)]) C dX12_knowsIn_127 rfl e11 (by decide) rfl ?_
              refine r_goto (tgt := 22) C dX12_knowsIn_130 (by decide) ?_
              obtain rfl := so hf1
              refine r_subk [1, 2, 3, 0] (lv' := [(0, .ref v0), (1, .int v1), (2, .int v2), (3, .int t10)]) rfl ?_
              exact ih22 t10 h8 hk22
            refine r_iload_n C dX12_knowsIn_22 rfl ?_
            refine r_aload_n C dX12_knowsIn_23 rfl ?_
            obtain ⟨t12, e13, hf1⟩ := ob hf1
            refine r_getR C fk_X12_7 rfl dX12_knowsIn_24 e13 ?_
            refine r_iconst (v := 2) C dX12_knowsIn_27 (by decide) ?_
            obtain ⟨t14, e15, hf1⟩ := ob hf1
            refine r_ldI C dX12_knowsIn_28 e15 ?_
            refine r_icmp_ge (tgt := 133) C dX12_knowsIn_29 (by decide) (fun c16 => ?_) (fun c16 => ?_)
            · rw [if_pos c16] at hf1
              obtain rfl := so hf1
              obtain rfl := so (show some h7 = some y5 from hk22)
              obtain rfl := so hf0
              exact r_vret C dX12_knowsIn_133
            · rw [if_neg c16] at hf1
              refine r_aload_n C dX12_knowsIn_32 rfl ?_
              refine r_iload_n C dX12_knowsIn_33 rfl ?_
              obtain ⟨u18, e17, hf1⟩ := ob hf1
              obtain ⟨t19, e20, hf1⟩ := ob hf1
              refine r_cV (ci := 12) (rest := []) (st2 := [.int t19]) C (s_X12_isPossible e20) mk_X12_isPossible rfl (ck_k e17) (by decide) im_X12_isPossible sl_X12_isPossible lk_X12_331 rfl rfl rfl dX12_knowsIn_34 (Nat.le_of_ble_eq_true rfl) ⟨Nat.le_of_ble_eq_true rfl, Nat.le_of_ble_eq_true rfl⟩ ⟨Nat.le_of_ble_eq_true rfl, Nat.le_of_ble_eq_true rfl⟩ ?_
              refine r_istore (lv' := [(4, .int t19), (0, .ref v0), (1, .int v1), (2, .int v2), (3, .int t6)]) C dX12_knowsIn_37 (by decide) rfl rfl ?_
              refine r_iconst (v := 0) C dX12_knowsIn_39 (by decide) ?_
              refine r_istore (lv' := [(5, .int (0 : Int32)), (4, .int t19), (0, .ref v0), (1, .int v1), (2, .int v2), (3, .int t6)]) C dX12_knowsIn_40 (by decide) rfl rfl ?_
              obtain ⟨y21, hl42, hf1⟩ := ob hf1
              have L42 : ∀ (n : Nat) (t22 : Int32) (t23 : Int32), whileL n (fun q : Int32 × Int32 => f_X12_knowsIn_b42 h7 v0 v1 v2 t6 q.1 q.2) (t22, t23) = some y21 → gW p l e (rmO 2 0 0) s m args below meth c (MQ below (eQ D cA B Hb out none) args s 0 0 (fun q => B ≤ q)) D cA B Hb 6 h7 42 [(0, .ref v0), (1, .int v1), (2, .int v2), (3, .int t6), (4, .int t22), (5, .int t23)] [] 0 0 := by
                intro n
                induction n with
                | zero => intro t22 t23 hz; cases hz
                | succ n ih42 =>
                  intro t22 t23 hz
                  obtain ⟨x42, hf2, hk42⟩ := wl hz
                  replace hf2 : f_X12_knowsIn_b42 h7 v0 v1 v2 t6 t22 t23 = some x42 := hf2
                  unfold f_X12_knowsIn_b42 at hf2
                  have J96 : ∀ (t24 : Int32) (t25 : Int32), f_X12_knowsIn_j96 h7 v0 v1 v2 t6 t24 t25 = some x42 → gW p l e (rmO 2 0 0) s m args below meth c (MQ below (eQ D cA B Hb out none) args s 0 0 (fun q => B ≤ q)) D cA B Hb 6 h7 96 [(0, .ref v0), (1, .int v1), (2, .int v2), (3, .int t6), (5, .int t24)] [.int t25] 0 0 := by
                    intro t24 t25 hf2
                    unfold f_X12_knowsIn_j96 at hf2
                    refine r_istore (lv' := [(4, .int t25), (0, .ref v0), (1, .int v1), (2, .int v2), (3, .int t6), (5, .int t24)]) C dX12_knowsIn_96 (by decide) rfl rfl ?_
                    obtain ⟨t26, e27, hf2⟩ := ob hf2
                    refine r_iinc (lv' := [(5, .int t26), (4, .int t25), (0, .ref v0), (1, .int v1), (2, .int v2), (3, .int t6)]) C dX12_knowsIn_98 rfl e27 (by decide) rfl ?_
                    refine r_goto (tgt := 42) C dX12_knowsIn_101 (by decide) ?_
                    obtain rfl := so hf2
                    refine r_subk [2, 3, 4, 5, 1, 0] (lv' := [(0, .ref v0), (1, .int v1), (2, .int v2), (3, .int t6), (4, .int t25), (5, .int t26)]) rfl ?_
                    exact ih42 t25 t26 hk42
                  have J95 : ∀ (t28 : Int32), f_X12_knowsIn_j95 h7 v0 v1 v2 t6 t28 = some x42 → gW p l e (rmO 2 0 0) s m args below meth c (MQ below (eQ D cA B Hb out none) args s 0 0 (fun q => B ≤ q)) D cA B Hb 6 h7 95 [(0, .ref v0), (1, .int v1), (2, .int v2), (3, .int t6), (5, .int t28)] [] 0 0 := by
                    intro t28 hf2
                    unfold f_X12_knowsIn_j95 at hf2
                    refine r_iconst (v := 0) C dX12_knowsIn_95 (by decide) ?_
                    exact J96 t28 (0 : Int32) hf2
                  have J91 : ∀ (t29 : Int32), f_X12_knowsIn_j91 h7 v0 v1 v2 t6 t29 = some x42 → gW p l e (rmO 2 0 0) s m args below meth c (MQ below (eQ D cA B Hb out none) args s 0 0 (fun q => B ≤ q)) D cA B Hb 6 h7 91 [(0, .ref v0), (1, .int v1), (2, .int v2), (3, .int t6), (5, .int t29)] [] 0 0 := by
                    intro t29 hf2
                    unfold f_X12_knowsIn_j91 at hf2
                    refine r_iconst (v := 1) C dX12_knowsIn_91 (by decide) ?_
                    refine r_goto (tgt := 96) C dX12_knowsIn_92 (by decide) ?_
                    exact J96 t29 (1 : Int32) hf2
                  refine r_iload C dX12_knowsIn_42 rfl ?_
                  refine r_aload_n C dX12_knowsIn_44 rfl ?_
                  obtain ⟨t30, e31, hf2⟩ := ob hf2
                  refine r_getR C fk_X12_7 rfl dX12_knowsIn_45 e31 ?_
                  refine r_iconst (v := 0) C dX12_knowsIn_48 (by decide) ?_
                  obtain ⟨t32, e33, hf2⟩ := ob hf2
                  refine r_ldI C dX12_knowsIn_49 e33 ?_
                  refine r_icmp_ge (tgt := 104) C dX12_knowsIn_50 (by decide) (fun c34 => ?_) (fun c34 => ?_)
                  · rw [if_pos c34] at hf2
                    obtain rfl := so hf2
                    obtain rfl := so (show some t22 = some y21 from hk42)
                    refine r_iload C dX12_knowsIn_104 rfl ?_
                    refine r_ifeq (tgt := 127) C dX12_knowsIn_106 (by decide) (fun c35 => ?_) (fun c35 => ?_)
                    · rw [if_pos c35] at hf1
                      refine r_subk [0, 1, 2, 3] (lv' := [(0, .ref v0), (1, .int v1), (2, .int v2), (3, .int t6)]) rfl ?_
                      exact J127 h7 t6 hf1
                    · rw [if_neg c35] at hf1
                      refine r_aload_n C dX12_knowsIn_109 rfl ?_
                      obtain ⟨t36, e37, hf1⟩ := ob hf1
                      refine r_getR C fk_X12_63 rfl dX12_knowsIn_110 e37 ?_
                      refine r_iload_n C dX12_knowsIn_113 rfl ?_
                      refine r_bipush (v := 64) C dX12_knowsIn_114 (by decide) ?_
                      obtain ⟨u39, e38, hf1⟩ := ob hf1
                      refine r_idiv C dX12_knowsIn_116 (nz_k e38) ?_
                      refine r_dup2 C dX12_knowsIn_117 rfl rfl ?_
                      obtain ⟨t40, e41, hf1⟩ := ob hf1
                      refine r_ldJ C dX12_knowsIn_118 e41 ?_
                      refine r_lconst (v := 1) C dX12_knowsIn_119 (by decide) ?_
                      refine r_iload_n C dX12_knowsIn_120 rfl ?_
                      refine r_bipush (v := 64) C dX12_knowsIn_121 (by decide) ?_
                      obtain ⟨u43, e42, hf1⟩ := ob hf1
                      refine r_irem C dX12_knowsIn_123 (nz_k e42) ?_
                      refine r_lshl C dX12_knowsIn_124 ?_
                      refine r_lor C dX12_knowsIn_125 ?_
                      obtain ⟨h44, e45, hf1⟩ := ob hf1
                      refine r_stJ C dX12_knowsIn_126 e45 ?_
                      refine r_subk [0, 1, 2, 3] (lv' := [(0, .ref v0), (1, .int v1), (2, .int v2), (3, .int t6)]) rfl ?_
                      exact J127 h44 t6 hf1
                  · rw [if_neg c34] at hf2
                    refine r_iload C dX12_knowsIn_53 rfl ?_
                    refine r_ifeq (tgt := 95) C dX12_knowsIn_55 (by decide) (fun c46 => ?_) (fun c46 => ?_)
                    · rw [if_pos c46] at hf2
                      refine r_subk [0, 1, 2, 3, 5] (lv' := [(0, .ref v0), (1, .int v1), (2, .int v2), (3, .int t6), (5, .int t23)]) rfl ?_
                      exact J95 t23 hf2
                    · rw [if_neg c46] at hf2
                      refine r_aload_n C dX12_knowsIn_58 rfl ?_
                      refine r_iload_n C dX12_knowsIn_59 rfl ?_
                      refine r_iconst (v := 4) C dX12_knowsIn_60 (by decide) ?_
                      obtain ⟨u48, e47, hf2⟩ := ob hf2
                      obtain ⟨t49, e50, hf2⟩ := ob hf2
                      refine r_cV (ci := 12) (rest := []) (st2 := [.int t49]) C (s_X12_ofWitness e50) mk_X12_ofWitness rfl (ck_k e47) (by decide) im_X12_ofWitness sl_X12_ofWitness lk_X12_343 rfl rfl rfl dX12_knowsIn_61 (Nat.le_of_ble_eq_true rfl) ⟨Nat.le_of_ble_eq_true rfl, Nat.le_of_ble_eq_true rfl⟩ ⟨Nat.le_of_ble_eq_true rfl, Nat.le_of_ble_eq_true rfl⟩ ?_
                      refine r_iload C dX12_knowsIn_64 rfl ?_
                      refine r_ishr C dX12_knowsIn_66 ?_
                      refine r_iconst (v := 1) C dX12_knowsIn_67 (by decide) ?_
                      refine r_iand C dX12_knowsIn_68 ?_
                      refine r_ifeq (tgt := 91) C dX12_knowsIn_69 (by decide) (fun c51 => ?_) (fun c51 => ?_)
                      · rw [if_pos c51] at hf2
                        refine r_subk [0, 1, 2, 3, 5] (lv' := [(0, .ref v0), (1, .int v1), (2, .int v2), (3, .int t6), (5, .int t23)]) rfl ?_
                        exact J91 t23 hf2
                      · rw [if_neg c51] at hf2
                        refine r_aload_n C dX12_knowsIn_72 rfl ?_
                        refine r_iconst (v := 0) C dX12_knowsIn_73 (by decide) ?_
                        refine r_iload_n C dX12_knowsIn_74 rfl ?_
                        refine r_iload C dX12_knowsIn_75 rfl ?_
                        obtain ⟨u53, e52, hf2⟩ := ob hf2
                        obtain ⟨t54, e55, hf2⟩ := ob hf2
                        refine r_cV (ci := 12) (rest := []) (st2 := [.int t54]) C (s_X12_valueIn e55) mk_X12_valueIn rfl (ck_k e52) (by decide) im_X12_valueIn sl_X12_valueIn lk_X12_234 rfl rfl rfl dX12_knowsIn_77 (Nat.le_of_ble_eq_true rfl) ⟨Nat.le_of_ble_eq_true rfl, Nat.le_of_ble_eq_true rfl⟩ ⟨Nat.le_of_ble_eq_true rfl, Nat.le_of_ble_eq_true rfl⟩ ?_
                        refine r_aload_n C dX12_knowsIn_80 rfl ?_
                        refine r_iconst (v := 0) C dX12_knowsIn_81 (by decide) ?_
                        refine r_iload_n C dX12_knowsIn_82 rfl ?_
                        refine r_iload C dX12_knowsIn_83 rfl ?_
                        obtain ⟨u57, e56, hf2⟩ := ob hf2
                        obtain ⟨t58, e59, hf2⟩ := ob hf2
                        refine r_cV (ci := 12) (rest := [.int t54]) (st2 := [.int t58, .int t54]) C (s_X12_valueIn e59) mk_X12_valueIn rfl (ck_k e56) (by decide) im_X12_valueIn sl_X12_valueIn lk_X12_234 rfl rfl rfl dX12_knowsIn_85 (Nat.le_of_ble_eq_true rfl) ⟨Nat.le_of_ble_eq_true rfl, Nat.le_of_ble_eq_true rfl⟩ ⟨Nat.le_of_ble_eq_true rfl, Nat.le_of_ble_eq_true rfl⟩ ?_
                        refine r_icmp_ne (tgt := 95) C dX12_knowsIn_88 (by decide) (fun c60 => ?_) (fun c60 => ?_)
                        · rw [if_neg c60] at hf2
                          refine r_subk [0, 1, 2, 3, 5] (lv' := [(0, .ref v0), (1, .int v1), (2, .int v2), (3, .int t6), (5, .int t23)]) rfl ?_
                          exact J95 t23 hf2
                        · rw [if_pos c60] at hf2
                          refine r_subk [0, 1, 2, 3, 5] (lv' := [(0, .ref v0), (1, .int v1), (2, .int v2), (3, .int t6), (5, .int t23)]) rfl ?_
                          exact J91 t23 hf2
              refine r_subk [2, 3, 4, 5, 1, 0] (lv' := [(0, .ref v0), (1, .int v1), (2, .int v2), (3, .int t6), (4, .int t19), (5, .int (0 : Int32))]) rfl ?_
              exact L42 wN t19 (0 : Int32) hl42
        refine r_subk [1, 2, 3, 0] (lv' := [(0, .ref v0), (1, .int v1), (2, .int v2), (3, .int (0 : Int32))]) rfl ?_
        exact L22 wN (0 : Int32) h3 hl22
      · rw [if_neg c4] at hf1
        refine r_aload_n C dX12_knowsIn_7 rfl ?_
        obtain ⟨t61, e62, hf1⟩ := ob hf1
        refine r_getR C fk_X12_63 rfl dX12_knowsIn_8 e62 ?_
        refine r_iload_n C dX12_knowsIn_11 rfl ?_
        refine r_lconst (v := 0) C dX12_knowsIn_12 (by decide) ?_
        obtain ⟨h63, e64, hf1⟩ := ob hf1
        refine r_stJ C dX12_knowsIn_13 e64 ?_
        obtain ⟨t65, e66, hf1⟩ := ob hf1
        refine r_iinc (lv' := [(3, .int t65), (0, .ref v0), (1, .int v1), (2, .int v2)]) C dX12_knowsIn_14 rfl e66 (by decide) rfl ?_
        refine r_goto (tgt := 2) C dX12_knowsIn_17 (by decide) ?_
        obtain rfl := so hf1
        refine r_subk [1, 2, 3, 0] (lv' := [(0, .ref v0), (1, .int v1), (2, .int v2), (3, .int t65)]) rfl ?_
        exact ih2 t65 h63 hk2
  refine r_subk [1, 2, 3, 0] (lv' := [(0, .ref v0), (1, .int v1), (2, .int v2), (3, .int (0 : Int32))]) rfl ?_
  exact L2 wN (0 : Int32) h hl2
def f_X12_meansBy_j51 (h : aH) (v0 : Nat) (v1 : Int32) (v2 : Int32) (s0 : Nat) (s1 : Int32) (s2 : Int64) : Option ((Int32 × aH) ⊕ (aH)) := (sJ h s0 s1 s2).bind fun h1 => (some (v2 + (1 : Int32))).bind fun t2 => some (.inl (t2, h1))
def f_X12_meansBy_b2 (v0 : Nat) (v1 : Int32) (v2 : Int32) (h : aH) : Option ((Int32 × aH) ⊕ (aH)) := if (4 : Int32) ≤ v2 then some (.inr h) else (gR h 12 v0 1).bind fun t3 => (nz (2 : Int32)).bind fun _ => (lJ h t3 (((4 : Int32) + ((4 : Int32) * (v1 / (2 : Int32)))) + v2)).bind fun t4 => (gR h 12 v0 33).bind fun t5 => (nz (2 : Int32)).bind fun _ => if (v1 - v1 / (2 : Int32) * (2 : Int32)) = 0 then f_X12_meansBy_j51 h v0 v1 v2 t5 v2 t4 else (gR h 12 v0 1).bind fun t6 => (lJ h t6 ((0 : Int32) + v2)).bind fun t7 => f_X12_meansBy_j51 h v0 v1 v2 t5 v2 (t7 &&& (t4 ^^^ (-1 : Int64)))
def f_X12_meansBy_l2 (v0 : Nat) (v1 : Int32) (v2 : Int32) (h : aH) : Option (aH) := whileL wN (fun q : Int32 × aH => f_X12_meansBy_b2 v0 v1 q.1 q.2) (v2, h)
def f_X12_meansBy (h : aH) (v0 : Nat) (v1 : Int32) : Option (aH) := (f_X12_meansBy_l2 v0 v1 (0 : Int32) h).bind fun h8 => some h8
theorem s_X12_meansBy {h : aH} {v0 : Nat} {v1 : Int32} {out : aH} (hf0 : f_X12_meansBy h v0 v1 = some out) : EV 0 yX12_meansBy cX12_meansBy 5 none h [.ref v0, .int v1] none out 0 0 := by
  refine EV.of (own := RX12) (lv0 := [(0, .ref v0), (1, .int v1)]) (by decide +kernel) rfl rfl (Nat.le_of_ble_eq_true rfl) ?_
  intro p l e s m args below meth c D cA B Hb C hin
  unfold f_X12_meansBy at hf0
  refine r_iconst (v := 0) C dX12_meansBy_0 (by decide) ?_
  refine r_istore_n (lv' := [(2, .int (0 : Int32)), (0, .ref v0), (1, .int v1)]) C dX12_meansBy_1 (by decide) rfl rfl ?_
  obtain ⟨y1, hl2, hf0⟩ := ob hf0
  have L2 : ∀ (n : Nat) (t2 : Int32) (h3 : aH), whileL n (fun q : Int32 × aH => f_X12_meansBy_b2 v0 v1 q.1 q.2) (t2, h3) = some y1 → gW p l e (rmO 0 0 0) s m args below meth c (MQ below (eQ D cA B Hb out none) args s 0 0 (fun q => B ≤ q)) D cA B Hb 5 h3 2 [(0, .ref v0), (1, .int v1), (2, .int t2)] [] 0 0 := by
    intro n
    induction n with
    | zero => intro t2 h3 hz; cases hz
    | succ n ih2 =>
      intro t2 h3 hz
      obtain ⟨x2, hf1, hk2⟩ := wl hz
      replace hf1 : f_X12_meansBy_b2 v0 v1 t2 h3 = some x2 := hf1
      unfold f_X12_meansBy_b2 at hf1
      have J51 : ∀ (h4 : aH) (t5 : Int32) (t6 : Nat) (t7 : Int32) (t8 : Int64), f_X12_meansBy_j51 h4 v0 v1 t5 t6 t7 t8 = some x2 → gW p l e (rmO 0 0 0) s m args below meth c (MQ below (eQ D cA B Hb out none) args s 0 0 (fun q => B ≤ q)) D cA B Hb 5 h4 51 [(0, .ref v0), (1, .int v1), (2, .int t5)] [.long t8, .int t7, .ref t6] 0 0 := by
        intro h4 t5 t6 t7 t8 hf1
        unfold f_X12_meansBy_j51 at hf1
        obtain ⟨h9, e10, hf1⟩ := ob hf1
        refine r_stJ C dX12_meansBy_51 e10 ?_
        obtain ⟨t11, e12, hf1⟩ := ob hf1
        refine r_iinc (lv' := [(2, .int t11), (0, .ref v0), (1, .int v1)]) C dX12_meansBy_52 rfl e12 (by decide) rfl ?_
        refine r_goto (tgt := 2) C dX12_meansBy_55 (by decide) ?_
        obtain rfl := so hf1
        refine r_subk [1, 2, 0] (lv' := [(0, .ref v0), (1, .int v1), (2, .int t11)]) rfl ?_
        exact ih2 t11 h9 hk2
      refine r_iload_n C dX12_meansBy_2 rfl ?_
      refine r_iconst (v := 4) C dX12_meansBy_3 (by decide) ?_
      refine r_icmp_ge (tgt := 58) C dX12_meansBy_4 (by decide) (fun c13 => ?_) (fun c13 => ?_)
      · rw [if_pos c13] at hf1
        obtain rfl := so hf1
        obtain rfl := so (show some h3 = some y1 from hk2)
        obtain rfl := so hf0
        exact r_vret C dX12_meansBy_58
      · rw [if_neg c13] at hf1
        refine r_aload_n C dX12_meansBy_7 rfl ?_
        obtain ⟨t14, e15, hf1⟩ := ob hf1
        refine r_getR C fk_X12_13 rfl dX12_meansBy_8 e15 ?_
        refine r_iconst (v := 4) C dX12_meansBy_11 (by decide) ?_
        refine r_iconst (v := 4) C dX12_meansBy_12 (by decide) ?_
        refine r_iload_n C dX12_meansBy_13 rfl ?_
        refine r_iconst (v := 2) C dX12_meansBy_14 (by decide) ?_
        obtain ⟨u17, e16, hf1⟩ := ob hf1
        refine r_idiv C dX12_meansBy_15 (nz_k e16) ?_
        refine r_imul C dX12_meansBy_16 ?_
        refine r_iadd C dX12_meansBy_17 ?_
        refine r_iload_n C dX12_meansBy_18 rfl ?_
        refine r_iadd C dX12_meansBy_19 ?_
        obtain ⟨t18, e19, hf1⟩ := ob hf1
        refine r_ldJ C dX12_meansBy_20 e19 ?_
        refine r_lstore_n (lv' := [(3, .long t18), (0, .ref v0), (1, .int v1), (2, .int t2)]) C dX12_meansBy_21 (by decide) rfl rfl ?_
        refine r_aload_n C dX12_meansBy_22 rfl ?_
        obtain ⟨t20, e21, hf1⟩ := ob hf1
        refine r_getR C fk_X12_66 rfl dX12_meansBy_23 e21 ?_
        refine r_iload_n C dX12_meansBy_26 rfl ?_
        refine r_iload_n C dX12_meansBy_27 rfl ?_
        refine r_iconst (v := 2) C dX12_meansBy_28 (by decide) ?_
        obtain ⟨u23, e22, hf1⟩ := ob hf1
        refine r_irem C dX12_meansBy_29 (nz_k e22) ?_
        refine r_ifne (tgt := 37) C dX12_meansBy_30 (by decide) (fun c24 => ?_) (fun c24 => ?_)
        · rw [if_neg c24] at hf1
          refine r_aload_n C dX12_meansBy_37 rfl ?_
          obtain ⟨t25, e26, hf1⟩ := ob hf1
          refine r_getR C fk_X12_13 rfl dX12_meansBy_38 e26 ?_
          refine r_iconst (v := 0) C dX12_meansBy_41 (by decide) ?_
          refine r_iload_n C dX12_meansBy_42 rfl ?_
          refine r_iadd C dX12_meansBy_43 ?_
          obtain ⟨t27, e28, hf1⟩ := ob hf1
          refine r_ldJ C dX12_meansBy_44 e28 ?_
          refine r_lload_n C dX12_meansBy_45 rfl ?_
          refine r_ldc2 (v := -1) C dX12_meansBy_46 cl_X12_124 ?_
          refine r_lxor C dX12_meansBy_49 ?_
          refine r_land C dX12_meansBy_50 ?_
          refine r_subk [1, 2, 3] (lv' := [(0, .ref v0), (1, .int v1), (2, .int t2)]) rfl ?_
          exact J51 h3 t2 t20 t2 (t27 &&& (t18 ^^^ (-1 : Int64))) hf1
        · rw [if_pos c24] at hf1
          refine r_lload_n C dX12_meansBy_33 rfl ?_
          refine r_goto (tgt := 51) C dX12_meansBy_34 (by decide) ?_
          refine r_subk [1, 2, 3] (lv' := [(0, .ref v0), (1, .int v1), (2, .int t2)]) rfl ?_
          exact J51 h3 t2 t20 t2 t18 hf1
  refine r_subk [1, 2, 0] (lv' := [(0, .ref v0), (1, .int v1), (2, .int (0 : Int32))]) rfl ?_
  exact L2 wN (0 : Int32) h hl2
def f_X12_isMeant_j40 (h : aH) (v0 : Nat) (v2 : Int32) (s0 : Int32) : Option ((Int32 × Int32) ⊕ (Int32)) := (some (v2 + (1 : Int32))).bind fun t1 => some (.inl (s0, t1))
def f_X12_isMeant_j39 (h : aH) (v0 : Nat) (v2 : Int32) : Option ((Int32 × Int32) ⊕ (Int32)) := f_X12_isMeant_j40 h v0 v2 (0 : Int32)
def f_X12_isMeant_b4 (h : aH) (v0 : Nat) (v1 : Int32) (v2 : Int32) : Option ((Int32 × Int32) ⊕ (Int32)) := if (4 : Int32) ≤ v2 then some (.inr v1) else if v1 = 0 then f_X12_isMeant_j39 h v0 v2 else (gR h 12 v0 32).bind fun t2 => (lJ h t2 v2).bind fun t3 => (gR h 12 v0 33).bind fun t4 => (lJ h t4 v2).bind fun t5 => if (lg_cmp (t3 &&& (t5 ^^^ (-1 : Int64))) (0 : Int64)) = 0 then f_X12_isMeant_j40 h v0 v2 (1 : Int32) else f_X12_isMeant_j39 h v0 v2
def f_X12_isMeant_l4 (h : aH) (v0 : Nat) (v1 : Int32) (v2 : Int32) : Option (Int32) := whileL wN (fun q : Int32 × Int32 => f_X12_isMeant_b4 h v0 q.1 q.2) (v1, v2)
def f_X12_isMeant (h : aH) (v0 : Nat) : Option (Int32) := (f_X12_isMeant_l4 h v0 (1 : Int32) (0 : Int32)).bind fun t6 => (rZ t6).bind fun t7 => some t7
theorem s_X12_isMeant {h : aH} {v0 : Nat} {out : Int32} (hf0 : f_X12_isMeant h v0 = some out) : EV 0 yX12_isMeant cX12_isMeant 3 (some .boolean) h [.ref v0] (some (.int out)) h 0 0 := by
  refine EV.of (own := RX12) (lv0 := [(0, .ref v0)]) (by decide +kernel) rfl rfl (Nat.le_of_ble_eq_true rfl) ?_
  intro p l e s m args below meth c D cA B Hb C hin
  unfold f_X12_isMeant at hf0
  refine r_iconst (v := 1) C dX12_isMeant_0 (by decide) ?_
  refine r_istore_n (lv' := [(1, .int (1 : Int32)), (0, .ref v0)]) C dX12_isMeant_1 (by decide) rfl rfl ?_
  refine r_iconst (v := 0) C dX12_isMeant_2 (by decide) ?_
  refine r_istore_n (lv' := [(2, .int (0 : Int32)), (1, .int (1 : Int32)), (0, .ref v0)]) C dX12_isMeant_3 (by decide) rfl rfl ?_
  obtain ⟨y1, hl4, hf0⟩ := ob hf0
  have L4 : ∀ (n : Nat) (t2 : Int32) (t3 : Int32), whileL n (fun q : Int32 × Int32 => f_X12_isMeant_b4 h v0 q.1 q.2) (t2, t3) = some y1 → gW p l e (rmO 0 0 0) s m args below meth c (MQ below (eQ D cA B Hb h (some (.int out))) args s 0 0 (fun q => B ≤ q)) D cA B Hb 3 h 4 [(0, .ref v0), (1, .int t2), (2, .int t3)] [] 0 0 := by
    intro n
    induction n with
    | zero => intro t2 t3 hz; cases hz
    | succ n ih4 =>
      intro t2 t3 hz
      obtain ⟨x4, hf1, hk4⟩ := wl hz
      replace hf1 : f_X12_isMeant_b4 h v0 t2 t3 = some x4 := hf1
      unfold f_X12_isMeant_b4 at hf1
      have J40 : ∀ (t4 : Int32) (t5 : Int32), f_X12_isMeant_j40 h v0 t4 t5 = some x4 → gW p l e (rmO 0 0 0) s m args below meth c (MQ below (eQ D cA B Hb h (some (.int out))) args s 0 0 (fun q => B ≤ q)) D cA B Hb 3 h 40 [(0, .ref v0), (2, .int t4)] [.int t5] 0 0 := by
        intro t4 t5 hf1
        unfold f_X12_isMeant_j40 at hf1
        refine r_istore_n (lv' := [(1, .int t5), (0, .ref v0), (2, .int t4)]) C dX12_isMeant_40 (by decide) rfl rfl ?_
        obtain ⟨t6, e7, hf1⟩ := ob hf1
        refine r_iinc (lv' := [(2, .int t6), (1, .int t5), (0, .ref v0)]) C dX12_isMeant_41 rfl e7 (by decide) rfl ?_
        refine r_goto (tgt := 4) C dX12_isMeant_44 (by decide) ?_
        obtain rfl := so hf1
        refine r_subk [2, 1, 0] (lv' := [(0, .ref v0), (1, .int t5), (2, .int t6)]) rfl ?_
        exact ih4 t5 t6 hk4
      have J39 : ∀ (t8 : Int32), f_X12_isMeant_j39 h v0 t8 = some x4 → gW p l e (rmO 0 0 0) s m args below meth c (MQ below (eQ D cA B Hb h (some (.int out))) args s 0 0 (fun q => B ≤ q)) D cA B Hb 3 h 39 [(0, .ref v0), (2, .int t8)] [] 0 0 := by
        intro t8 hf1
        unfold f_X12_isMeant_j39 at hf1
        refine r_iconst (v := 0) C dX12_isMeant_39 (by decide) ?_
        exact J40 t8 (0 : Int32) hf1
      refine r_iload_n C dX12_isMeant_4 rfl ?_
      refine r_iconst (v := 4) C dX12_isMeant_5 (by decide) ?_
      refine r_icmp_ge (tgt := 47) C dX12_isMeant_6 (by decide) (fun c9 => ?_) (fun c9 => ?_)
      · rw [if_pos c9] at hf1
        obtain rfl := so hf1
        obtain rfl := so (show some t2 = some y1 from hk4)
        refine r_iload_n C dX12_isMeant_47 rfl ?_
        obtain ⟨t10, e11, hf0⟩ := ob hf0
        obtain ⟨rfl, e11z⟩ := rZ_k e11
        obtain rfl := so hf0
        exact r_zret C dX12_isMeant_48 e11z
      · rw [if_neg c9] at hf1
        refine r_iload_n C dX12_isMeant_9 rfl ?_
        refine r_ifeq (tgt := 39) C dX12_isMeant_10 (by decide) (fun c12 => ?_) (fun c12 => ?_)
        · rw [if_pos c12] at hf1
          refine r_subk [0, 2] (lv' := [(0, .ref v0), (2, .int t3)]) rfl ?_
          exact J39 t3 hf1
        · rw [if_neg c12] at hf1
          refine r_aload_n C dX12_isMeant_13 rfl ?_
          obtain ⟨t13, e14, hf1⟩ := ob hf1
          refine r_getR C fk_X12_63 rfl dX12_isMeant_14 e14 ?_
          refine r_iload_n C dX12_isMeant_17 rfl ?_
          obtain ⟨t15, e16, hf1⟩ := ob hf1
          refine r_ldJ C dX12_isMeant_18 e16 ?_
          refine r_aload_n C dX12_isMeant_19 rfl ?_
          obtain ⟨t17, e18, hf1⟩ := ob hf1
          refine r_getR C fk_X12_66 rfl dX12_isMeant_20 e18 ?_
          refine r_iload_n C dX12_isMeant_23 rfl ?_
          obtain ⟨t19, e20, hf1⟩ := ob hf1
          refine r_ldJ C dX12_isMeant_24 e20 ?_
          refine r_ldc2 (v := -1) C dX12_isMeant_25 cl_X12_124 ?_
          refine r_lxor C dX12_isMeant_28 ?_
          refine r_land C dX12_isMeant_29 ?_
          refine r_lconst (v := 0) C dX12_isMeant_30 (by decide) ?_
          refine r_lcmp C dX12_isMeant_31 ?_
          refine r_ifne (tgt := 39) C dX12_isMeant_32 (by decide) (fun c21 => ?_) (fun c21 => ?_)
          · rw [if_neg c21] at hf1
            refine r_subk [0, 2] (lv' := [(0, .ref v0), (2, .int t3)]) rfl ?_
            exact J39 t3 hf1
          · rw [if_pos c21] at hf1
            refine r_iconst (v := 1) C dX12_isMeant_35 (by decide) ?_
            refine r_goto (tgt := 40) C dX12_isMeant_36 (by decide) ?_
            refine r_subk [0, 2] (lv' := [(0, .ref v0), (2, .int t3)]) rfl ?_
            exact J40 t3 (1 : Int32) hf1
  refine r_subk [2, 1, 0] (lv' := [(0, .ref v0), (1, .int (1 : Int32)), (2, .int (0 : Int32))]) rfl ?_
  exact L4 wN (1 : Int32) (0 : Int32) hl4
def f_X12_liesTo_j91 (h : aH) (v0 : Nat) (v1 : Int32) (v2 : Int32) (v3 : Int32) : Option ((Int32 × Int32) ⊕ (Int32)) := (some (v3 + (1 : Int32))).bind fun t1 => some (.inl (v2, t1))
def f_X12_liesTo_j63 (h : aH) (v0 : Nat) (v1 : Int32) (v2 : Int32) (v3 : Int32) : Option ((Int32 × Int32) ⊕ (Int32)) := (gR h 12 v0 1).bind fun t2 => (lJ h t2 ((0 : Int32) + v3)).bind fun t3 => (gR h 12 v0 33).bind fun t4 => (lJ h t4 v3).bind fun t5 => if (lg_cmp (t3 &&& (t5 ^^^ (-1 : Int64))) (0 : Int64)) = 0 then f_X12_liesTo_j91 h v0 v1 v2 v3 else (some (v2 ||| (4 : Int32))).bind fun t6 => f_X12_liesTo_j91 h v0 v1 t6 v3
def f_X12_liesTo_j41 (h : aH) (v0 : Nat) (v1 : Int32) (v2 : Int32) (v3 : Int32) (v4 : Int64) : Option ((Int32 × Int32) ⊕ (Int32)) := (gR h 12 v0 33).bind fun t7 => (lJ h t7 v3).bind fun t8 => if (lg_cmp (t8 &&& (v4 ^^^ (-1 : Int64))) (0 : Int64)) = 0 then f_X12_liesTo_j63 h v0 v1 v2 v3 else (some (v2 ||| (2 : Int32))).bind fun t9 => f_X12_liesTo_j63 h v0 v1 t9 v3
def f_X12_liesTo_b4 (h : aH) (v0 : Nat) (v1 : Int32) (v2 : Int32) (v3 : Int32) : Option ((Int32 × Int32) ⊕ (Int32)) := if (4 : Int32) ≤ v3 then some (.inr v2) else (gR h 12 v0 1).bind fun t10 => (lJ h t10 (((4 : Int32) + ((4 : Int32) * v1)) + v3)).bind fun t11 => (gR h 12 v0 33).bind fun t12 => (lJ h t12 v3).bind fun t13 => if (lg_cmp (t13 &&& t11) (0 : Int64)) = 0 then f_X12_liesTo_j41 h v0 v1 v2 v3 t11 else (some (v2 ||| (1 : Int32))).bind fun t14 => f_X12_liesTo_j41 h v0 v1 t14 v3 t11
def f_X12_liesTo_l4 (h : aH) (v0 : Nat) (v1 : Int32) (v2 : Int32) (v3 : Int32) : Option (Int32) := whileL wN (fun q : Int32 × Int32 => f_X12_liesTo_b4 h v0 v1 q.1 q.2) (v2, v3)
def f_X12_liesTo (h : aH) (v0 : Nat) (v1 : Int32) : Option (Int32) := (f_X12_liesTo_l4 h v0 v1 (0 : Int32) (0 : Int32)).bind fun t15 => some t15
theorem s_X12_liesTo {h : aH} {v0 : Nat} {v1 : Int32} {out : Int32} (hf0 : f_X12_liesTo h v0 v1 = some out) : EV 0 yX12_liesTo cX12_liesTo 6 (some .int) h [.ref v0, .int v1] (some (.int out)) h 0 0 := by
  refine EV.of (own := RX12) (lv0 := [(0, .ref v0), (1, .int v1)]) (by decide +kernel) rfl rfl (Nat.le_of_ble_eq_true rfl) ?_
  intro p l e s m args below meth c D cA B Hb C hin
  unfold f_X12_liesTo at hf0
  refine r_iconst (v := 0) C dX12_liesTo_0 (by decide) ?_
  refine r_istore_n (lv' := [(2, .int (0 : Int32)), (0, .ref v0), (1, .int v1)]) C dX12_liesTo_1 (by decide) rfl rfl ?_
  refine r_iconst (v := 0) C dX12_liesTo_2 (by decide) ?_
  refine r_istore_n (lv' := [(3, .int (0 : Int32)), (2, .int (0 : Int32)), (0, .ref v0), (1, .int v1)]) C dX12_liesTo_3 (by decide) rfl rfl ?_
  obtain ⟨y1, hl4, hf0⟩ := ob hf0
  have L4 : ∀ (n : Nat) (t2 : Int32) (t3 : Int32), whileL n (fun q : Int32 × Int32 => f_X12_liesTo_b4 h v0 v1 q.1 q.2) (t2, t3) = some y1 → gW p l e (rmO 0 0 0) s m args below meth c (MQ below (eQ D cA B Hb h (some (.int out))) args s 0 0 (fun q => B ≤ q)) D cA B Hb 6 h 4 [(0, .ref v0), (1, .int v1), (2, .int t2), (3, .int t3)] [] 0 0 := by
    intro n
    induction n with
    | zero => intro t2 t3 hz; cases hz
    | succ n ih4 =>
      intro t2 t3 hz
      obtain ⟨x4, hf1, hk4⟩ := wl hz
      replace hf1 : f_X12_liesTo_b4 h v0 v1 t2 t3 = some x4 := hf1
      unfold f_X12_liesTo_b4 at hf1
      have J91 : ∀ (t4 : Int32) (t5 : Int32), f_X12_liesTo_j91 h v0 v1 t4 t5 = some x4 → gW p l e (rmO 0 0 0) s m args below meth c (MQ below (eQ D cA B Hb h (some (.int out))) args s 0 0 (fun q => B ≤ q)) D cA B Hb 6 h 91 [(0, .ref v0), (1, .int v1), (2, .int t4), (3, .int t5)] [] 0 0 := by
        intro t4 t5 hf1
        unfold f_X12_liesTo_j91 at hf1
        obtain ⟨t6, e7, hf1⟩ := ob hf1
        refine r_iinc (lv' := [(3, .int t6), (0, .ref v0), (1, .int v1), (2, .int t4)]) C dX12_liesTo_91 rfl e7 (by decide) rfl ?_
        refine r_goto (tgt := 4) C dX12_liesTo_94 (by decide) ?_
        obtain rfl := so hf1
        refine r_subk [1, 2, 3, 0] (lv' := [(0, .ref v0), (1, .int v1), (2, .int t4), (3, .int t6)]) rfl ?_
        exact ih4 t4 t6 hk4
      have J63 : ∀ (t8 : Int32) (t9 : Int32), f_X12_liesTo_j63 h v0 v1 t8 t9 = some x4 → gW p l e (rmO 0 0 0) s m args below meth c (MQ below (eQ D cA B Hb h (some (.int out))) args s 0 0 (fun q => B ≤ q)) D cA B Hb 6 h 63 [(0, .ref v0), (1, .int v1), (2, .int t8), (3, .int t9)] [] 0 0 := by
        intro t8 t9 hf1
        unfold f_X12_liesTo_j63 at hf1
        refine r_aload_n C dX12_liesTo_63 rfl ?_
        obtain ⟨t10, e11, hf1⟩ := ob hf1
        refine r_getR C fk_X12_13 rfl dX12_liesTo_64 e11 ?_
        refine r_iconst (v := 0) C dX12_liesTo_67 (by decide) ?_
        refine r_iload_n C dX12_liesTo_68 rfl ?_
        refine r_iadd C dX12_liesTo_69 ?_
        obtain ⟨t12, e13, hf1⟩ := ob hf1
        refine r_ldJ C dX12_liesTo_70 e13 ?_
        refine r_aload_n C dX12_liesTo_71 rfl ?_
        obtain ⟨t14, e15, hf1⟩ := ob hf1
        refine r_getR C fk_X12_66 rfl dX12_liesTo_72 e15 ?_
        refine r_iload_n C dX12_liesTo_75 rfl ?_
        obtain ⟨t16, e17, hf1⟩ := ob hf1
        refine r_ldJ C dX12_liesTo_76 e17 ?_
        refine r_ldc2 (v := -1) C dX12_liesTo_77 cl_X12_124 ?_
        refine r_lxor C dX12_liesTo_80 ?_
        refine r_land C dX12_liesTo_81 ?_
        refine r_lconst (v := 0) C dX12_liesTo_82 (by decide) ?_
        refine r_lcmp C dX12_liesTo_83 ?_
        refine r_ifeq (tgt := 91) C dX12_liesTo_84 (by decide) (fun c18 => ?_) (fun c18 => ?_)
        · rw [if_pos c18] at hf1
          exact J91 t8 t9 hf1
        · rw [if_neg c18] at hf1
          refine r_iload_n C dX12_liesTo_87 rfl ?_
          refine r_iconst (v := 4) C dX12_liesTo_88 (by decide) ?_
          refine r_ior C dX12_liesTo_89 ?_
          obtain ⟨t19, e20, hf1⟩ := ob hf1
          refine r_istore_n (lv' := [(2, .int t19), (0, .ref v0), (1, .int v1), (3, .int t9)]) C dX12_liesTo_90 (by decide) e20 rfl ?_
          refine r_subk [1, 2, 0, 3] (lv' := [(0, .ref v0), (1, .int v1), (2, .int t19), (3, .int t9)]) rfl ?_
          exact J91 t19 t9 hf1
      have J41 : ∀ (t21 : Int32) (t22 : Int32) (t23 : Int64), f_X12_liesTo_j41 h v0 v1 t21 t22 t23 = some x4 → gW p l e (rmO 0 0 0) s m args below meth c (MQ below (eQ D cA B Hb h (some (.int out))) args s 0 0 (fun q => B ≤ q)) D cA B Hb 6 h 41 [(0, .ref v0), (1, .int v1), (2, .int t21), (3, .int t22), (4, .long t23)] [] 0 0 := by
        intro t21 t22 t23 hf1
        unfold f_X12_liesTo_j41 at hf1
        refine r_aload_n C dX12_liesTo_41 rfl ?_
        obtain ⟨t24, e25, hf1⟩ := ob hf1
        refine r_getR C fk_X12_66 rfl dX12_liesTo_42 e25 ?_
        refine r_iload_n C dX12_liesTo_45 rfl ?_
        obtain ⟨t26, e27, hf1⟩ := ob hf1
        refine r_ldJ C dX12_liesTo_46 e27 ?_
        refine r_lload C dX12_liesTo_47 rfl ?_
        refine r_ldc2 (v := -1) C dX12_liesTo_49 cl_X12_124 ?_
        refine r_lxor C dX12_liesTo_52 ?_
        refine r_land C dX12_liesTo_53 ?_
        refine r_lconst (v := 0) C dX12_liesTo_54 (by decide) ?_
        refine r_lcmp C dX12_liesTo_55 ?_
        refine r_ifeq (tgt := 63) C dX12_liesTo_56 (by decide) (fun c28 => ?_) (fun c28 => ?_)
        · rw [if_pos c28] at hf1
          refine r_subk [0, 1, 2, 3] (lv' := [(0, .ref v0), (1, .int v1), (2, .int t21), (3, .int t22)]) rfl ?_
          exact J63 t21 t22 hf1
        · rw [if_neg c28] at hf1
          refine r_iload_n C dX12_liesTo_59 rfl ?_
          refine r_iconst (v := 2) C dX12_liesTo_60 (by decide) ?_
          refine r_ior C dX12_liesTo_61 ?_
          obtain ⟨t29, e30, hf1⟩ := ob hf1
          refine r_istore_n (lv' := [(2, .int t29), (0, .ref v0), (1, .int v1), (3, .int t22), (4, .long t23)]) C dX12_liesTo_62 (by decide) e30 rfl ?_
          refine r_subk [1, 2, 0, 3] (lv' := [(0, .ref v0), (1, .int v1), (2, .int t29), (3, .int t22)]) rfl ?_
          exact J63 t29 t22 hf1
      refine r_iload_n C dX12_liesTo_4 rfl ?_
      refine r_iconst (v := 4) C dX12_liesTo_5 (by decide) ?_
      refine r_icmp_ge (tgt := 97) C dX12_liesTo_6 (by decide) (fun c31 => ?_) (fun c31 => ?_)
      · rw [if_pos c31] at hf1
        obtain rfl := so hf1
        obtain rfl := so (show some t2 = some y1 from hk4)
        refine r_iload_n C dX12_liesTo_97 rfl ?_
        obtain rfl := so hf0
        exact r_iret C dX12_liesTo_98
      · rw [if_neg c31] at hf1
        refine r_aload_n C dX12_liesTo_9 rfl ?_
        obtain ⟨t32, e33, hf1⟩ := ob hf1
        refine r_getR C fk_X12_13 rfl dX12_liesTo_10 e33 ?_
        refine r_iconst (v := 4) C dX12_liesTo_13 (by decide) ?_
        refine r_iconst (v := 4) C dX12_liesTo_14 (by decide) ?_
        refine r_iload_n C dX12_liesTo_15 rfl ?_
        refine r_imul C dX12_liesTo_16 ?_
        refine r_iadd C dX12_liesTo_17 ?_
        refine r_iload_n C dX12_liesTo_18 rfl ?_
        refine r_iadd C dX12_liesTo_19 ?_
        obtain ⟨t34, e35, hf1⟩ := ob hf1
        refine r_ldJ C dX12_liesTo_20 e35 ?_
        refine r_lstore (lv' := [(4, .long t34), (0, .ref v0), (1, .int v1), (2, .int t2), (3, .int t3)]) C dX12_liesTo_21 (by decide) rfl rfl ?_
        refine r_aload_n C dX12_liesTo_23 rfl ?_
        obtain ⟨t36, e37, hf1⟩ := ob hf1
        refine r_getR C fk_X12_66 rfl dX12_liesTo_24 e37 ?_
        refine r_iload_n C dX12_liesTo_27 rfl ?_
        obtain ⟨t38, e39, hf1⟩ := ob hf1
        refine r_ldJ C dX12_liesTo_28 e39 ?_
        refine r_lload C dX12_liesTo_29 rfl ?_
        refine r_land C dX12_liesTo_31 ?_
        refine r_lconst (v := 0) C dX12_liesTo_32 (by decide) ?_
        refine r_lcmp C dX12_liesTo_33 ?_
        refine r_ifeq (tgt := 41) C dX12_liesTo_34 (by decide) (fun c40 => ?_) (fun c40 => ?_)
        · rw [if_pos c40] at hf1
          refine r_subk [1, 2, 3, 4, 0] (lv' := [(0, .ref v0), (1, .int v1), (2, .int t2), (3, .int t3), (4, .long t34)]) rfl ?_
          exact J41 t2 t3 t34 hf1
        · rw [if_neg c40] at hf1
          refine r_iload_n C dX12_liesTo_37 rfl ?_
          refine r_iconst (v := 1) C dX12_liesTo_38 (by decide) ?_
          refine r_ior C dX12_liesTo_39 ?_
          obtain ⟨t41, e42, hf1⟩ := ob hf1
          refine r_istore_n (lv' := [(2, .int t41), (4, .long t34), (0, .ref v0), (1, .int v1), (3, .int t3)]) C dX12_liesTo_40 (by decide) e42 rfl ?_
          refine r_subk [2, 3, 0, 4, 1] (lv' := [(0, .ref v0), (1, .int v1), (2, .int t41), (3, .int t3), (4, .long t34)]) rfl ?_
          exact J41 t41 t3 t34 hf1
  refine r_subk [2, 3, 1, 0] (lv' := [(0, .ref v0), (1, .int v1), (2, .int (0 : Int32)), (3, .int (0 : Int32))]) rfl ?_
  exact L4 wN (0 : Int32) (0 : Int32) hl4
def f_X12_honestly_j168 (h : aH) (v0 : Nat) (v1 : Int32) (v2 : Int32) (v4 : Int32) : Option ((Int32 × aH) ⊕ ((Int32 × aH) ⊕ (aH))) := (some (v4 + (1 : Int32))).bind fun t1 => some (.inl (t1, h))
def f_X12_honestly_j161 (h : aH) (v0 : Nat) (v1 : Int32) (v2 : Int32) (v4 : Int32) (s0 : Int32) (s1 : Int32) : Option ((Int32 × aH) ⊕ ((Int32 × aH) ⊕ (aH))) := if (s0 &&& s1) = 0 then some (.inr (.inl (v4, h))) else f_X12_honestly_j168 h v0 v1 v2 v4
def f_X12_honestly_b110 (v0 : Nat) (v1 : Int32) (v2 : Int32) (v4 : Int32) (h : aH) : Option ((Int32 × aH) ⊕ ((Int32 × aH) ⊕ (aH))) := (gR h 12 v0 0).bind fun t2 => (lI h t2 (3 : Int32)).bind fun t3 => if ((2 : Int32) * t3) ≤ v4 then some (.inr (.inr h)) else (ck h 12 v0).bind fun _ => (f_X12_meansBy h v0 v4).bind fun h4 => if v4 = ((2 : Int32) * v1) then f_X12_honestly_j168 h4 v0 v1 v2 v4 else (ck h4 12 v0).bind fun _ => (f_X12_isMeant h4 v0).bind fun t5 => if t5 = 0 then f_X12_honestly_j168 h4 v0 v1 v2 v4 else (ck h4 12 v0).bind fun _ => (f_X12_liesTo h4 v0 v1).bind fun t6 => if v2 = 0 then f_X12_honestly_j161 h4 v0 v1 v2 v4 t6 (1 : Int32) else f_X12_honestly_j161 h4 v0 v1 v2 v4 t6 (2 : Int32)
def f_X12_honestly_l110 (v0 : Nat) (v1 : Int32) (v2 : Int32) (v4 : Int32) (h : aH) : Option ((Int32 × aH) ⊕ (aH)) := whileL wN (fun q : Int32 × aH => f_X12_honestly_b110 v0 v1 v2 q.1 q.2) (v4, h)
def f_X12_honestly_j107 (h : aH) (v0 : Nat) (v1 : Int32) (v2 : Int32) : Option (Int32 × aH) := (f_X12_honestly_l110 v0 v1 v2 (0 : Int32) h).bind fun e => match e with | .inl (t7, h8) => some (t7, h8) | .inr h9 => some ((2 : Int32) * v1, h9)
def f_X12_honestly_j88 (h : aH) (v0 : Nat) (v1 : Int32) (v2 : Int32) (v4 : Int32) (s0 : Int32) : Option ((Int32 × Int32 × Int32) ⊕ (Int32 × Int32)) := (some (v4 + (1 : Int32))).bind fun t10 => some (.inl (v2, s0, t10))
def f_X12_honestly_j87 (h : aH) (v0 : Nat) (v1 : Int32) (v2 : Int32) (v4 : Int32) : Option ((Int32 × Int32 × Int32) ⊕ (Int32 × Int32)) := f_X12_honestly_j88 h v0 v1 v2 v4 (0 : Int32)
def f_X12_honestly_j52 (h : aH) (v0 : Nat) (v1 : Int32) (v3 : Int32) (v4 : Int32) (s0 : Int32) : Option ((Int32 × Int32 × Int32) ⊕ (Int32 × Int32)) := if v3 = 0 then f_X12_honestly_j87 h v0 v1 s0 v4 else (gR h 12 v0 32).bind fun t11 => (lJ h t11 v4).bind fun t12 => (gR h 12 v0 1).bind fun t13 => (lJ h t13 (((4 : Int32) + ((4 : Int32) * v1)) + v4)).bind fun t14 => if (lg_cmp (t12 &&& t14) (0 : Int64)) = 0 then f_X12_honestly_j88 h v0 v1 s0 v4 (1 : Int32) else f_X12_honestly_j87 h v0 v1 s0 v4
def f_X12_honestly_j51 (h : aH) (v0 : Nat) (v1 : Int32) (v3 : Int32) (v4 : Int32) : Option ((Int32 × Int32 × Int32) ⊕ (Int32 × Int32)) := f_X12_honestly_j52 h v0 v1 v3 v4 (0 : Int32)
def f_X12_honestly_b7 (h : aH) (v0 : Nat) (v1 : Int32) (v2 : Int32) (v3 : Int32) (v4 : Int32) : Option ((Int32 × Int32 × Int32) ⊕ (Int32 × Int32)) := if (4 : Int32) ≤ v4 then some (.inr (v2, v3)) else if v2 = 0 then f_X12_honestly_j51 h v0 v1 v3 v4 else (gR h 12 v0 32).bind fun t15 => (lJ h t15 v4).bind fun t16 => (gR h 12 v0 1).bind fun t17 => (lJ h t17 (((4 : Int32) + ((4 : Int32) * v1)) + v4)).bind fun t18 => if (lg_cmp (t16 &&& (t18 ^^^ (-1 : Int64))) (0 : Int64)) = 0 then f_X12_honestly_j52 h v0 v1 v3 v4 (1 : Int32) else f_X12_honestly_j51 h v0 v1 v3 v4
def f_X12_honestly_l7 (h : aH) (v0 : Nat) (v1 : Int32) (v2 : Int32) (v3 : Int32) (v4 : Int32) : Option (Int32 × Int32) := whileL wN (fun q : Int32 × Int32 × Int32 => f_X12_honestly_b7 h v0 v1 q.1 q.2.1 q.2.2) (v2, v3, v4)
def f_X12_honestly (h : aH) (v0 : Nat) (v1 : Int32) : Option (Int32 × aH) := bd2 (f_X12_honestly_l7 h v0 v1 (1 : Int32) (1 : Int32) (0 : Int32)) fun t19 t20 => if t19 = 0 then if t20 = 0 then some ((2 : Int32) * v1, h) else f_X12_honestly_j107 h v0 v1 t19 else f_X12_honestly_j107 h v0 v1 t19
theorem s_X12_honestly {h : aH} {v0 : Nat} {v1 : Int32} {out : Int32 × aH} (hf0 : f_X12_honestly h v0 v1 = some out) : EV 1 yX12_honestly cX12_honestly 5 (some .int) h [.ref v0, .int v1] (some (.int out.1)) out.2 0 0 := by
  refine EV.of (own := RX12) (lv0 := [(0, .ref v0), (1, .int v1)]) (by decide +kernel) rfl rfl (Nat.le_of_ble_eq_true rfl) ?_
  intro p l e s m args below meth c D cA B Hb C hin
  unfold f_X12_honestly at hf0
  have J107 : ∀ (h1 : aH) (t2 : Nat) (t3 : Int32) (t4 : Int32), f_X12_honestly_j107 h1 t2 t3 t4 = some out → gW p l e (rmO 1 0 0) s m args below meth c (MQ below (eQ D cA B Hb out.2 (some (.int out.1))) args s 0 0 (fun q => B ≤ q)) D cA B Hb 5 h1 107 [(0, .ref t2), (1, .int t3), (2, .int t4)] [] 0 0 := by
    intro h1 t2 t3 t4 hf0
    unfold f_X12_honestly_j107 at hf0
    refine r_iconst (v := 0) C dX12_honestly_107 (by decide) ?_
    refine r_istore (lv' := [(4, .int (0 : Int32)), (0, .ref t2), (1, .int t3), (2, .int t4)]) C dX12_honestly_108 (by decide) rfl rfl ?_
    obtain ⟨y5, hl110, hf0⟩ := ob hf0
    have L110 : ∀ (n : Nat) (t6 : Int32) (h7 : aH), whileL n (fun q : Int32 × aH => f_X12_honestly_b110 t2 t3 t4 q.1 q.2) (t6, h7) = some y5 → gW p l e (rmO 1 0 0) s m args below meth c (MQ below (eQ D cA B Hb out.2 (some (.int out.1))) args s 0 0 (fun q => B ≤ q)) D cA B Hb 5 h7 110 [(0, .ref t2), (1, .int t3), (2, .int t4), (4, .int t6)] [] 0 0 := by
      intro n
      induction n with
      | zero => intro t6 h7 hz; cases hz
      | succ n ih110 =>
        intro t6 h7 hz
        obtain ⟨x110, hf1, hk110⟩ := wl hz
        replace hf1 : f_X12_honestly_b110 t2 t3 t4 t6 h7 = some x110 := hf1
        unfold f_X12_honestly_b110 at hf1
        have J168 : ∀ (h8 : aH) (t9 : Int32), f_X12_honestly_j168 h8 t2 t3 t4 t9 = some x110 → gW p l e (rmO 1 0 0) s m args below meth c (MQ below (eQ D cA B Hb out.2 (some (.int out.1))) args s 0 0 (fun q => B ≤ q)) D cA B Hb 5 h8 168 [(0, .ref t2), (1, .int t3), (2, .int t4), (4, .int t9)] [] 0 0 := by
          intro h8 t9 hf1
          unfold f_X12_honestly_j168 at hf1
          obtain ⟨t10, e11, hf1⟩ := ob hf1
          refine r_iinc (lv' := [(4, .int t10), (0, .ref t2), (1, .int t3), (2, .int t4)]) C dX12_honestly_168 rfl e11 (by decide) rfl ?_
          refine r_goto (tgt := 110) C dX12_honestly_171 (by decide) ?_
          obtain rfl := so hf1
          refine r_subk [1, 2, 3, 0] (lv' := [(0, .ref t2), (1, .int t3), (2, .int t4), (4, .int t10)]) rfl ?_
          exact ih110 t10 h8 hk110
        have J161 : ∀ (h12 : aH) (t13 : Int32) (t14 : Int32) (t15 : Int32), f_X12_honestly_j161 h12 t2 t3 t4 t13 t14 t15 = some x110 → gW p l e (rmO 1 0 0) s m args below meth c (MQ below (eQ D cA B Hb out.2 (some (.int out.1))) args s 0 0 (fun q => B ≤ q)) D cA B Hb 5 h12 161 [(0, .ref t2), (1, .int t3), (2, .int t4), (4, .int t13)] [.int t15, .int t14] 0 0 := by
          intro h12 t13 t14 t15 hf1
          unfold f_X12_honestly_j161 at hf1
          refine r_iand C dX12_honestly_161 ?_
          refine r_ifne (tgt := 168) C dX12_honestly_162 (by decide) (fun c16 => ?_) (fun c16 => ?_)
          · rw [if_neg c16] at hf1
            exact J168 h12 t13 hf1
          · rw [if_pos c16] at hf1
            obtain rfl := so hf1
            obtain rfl := so (show some (.inl (t13, h12) : (Int32 × aH) ⊕ (aH)) = some y5 from hk110)
            dsimp only at hf0
            refine r_iload C dX12_honestly_165 rfl ?_
            obtain rfl := so hf0
            exact r_iret C dX12_honestly_167
        refine r_iload C dX12_honestly_110 rfl ?_
        refine r_iconst (v := 2) C dX12_honestly_112 (by decide) ?_
        refine r_aload_n C dX12_honestly_113 rfl ?_
        obtain ⟨t17, e18, hf1⟩ := ob hf1
        refine r_getR C fk_X12_7 rfl dX12_honestly_114 e18 ?_
        refine r_iconst (v := 3) C dX12_honestly_117 (by decide) ?_
        obtain ⟨t19, e20, hf1⟩ := ob hf1
        refine r_ldI C dX12_honestly_118 e20 ?_
        refine r_imul C dX12_honestly_119 ?_
        refine r_icmp_ge (tgt := 174) C dX12_honestly_120 (by decide) (fun c21 => ?_) (fun c21 => ?_)
        · rw [if_pos c21] at hf1
          obtain rfl := so hf1
          obtain rfl := so (show some (.inr h7 : (Int32 × aH) ⊕ (aH)) = some y5 from hk110)
          dsimp only at hf0
          refine r_iconst (v := 2) C dX12_honestly_174 (by decide) ?_
          refine r_iload_n C dX12_honestly_175 rfl ?_
          refine r_imul C dX12_honestly_176 ?_
          obtain rfl := so hf0
          exact r_iret C dX12_honestly_177
        · rw [if_neg c21] at hf1
          refine r_aload_n C dX12_honestly_123 rfl ?_
          refine r_iload C dX12_honestly_124 rfl ?_
          obtain ⟨u23, e22, hf1⟩ := ob hf1
          obtain ⟨h24, e25, hf1⟩ := ob hf1
          refine r_cV (ci := 12) (rest := []) (st2 := []) C (s_X12_meansBy e25) mk_X12_meansBy rfl (ck_k e22) (by decide) im_X12_meansBy sl_X12_meansBy lk_X12_346 rfl rfl rfl dX12_honestly_126 (Nat.le_of_ble_eq_true rfl) ⟨Nat.le_of_ble_eq_true rfl, Nat.le_of_ble_eq_true rfl⟩ ⟨Nat.le_of_ble_eq_true rfl, Nat.le_of_ble_eq_true rfl⟩ ?_
          refine r_iload C dX12_honestly_129 rfl ?_
          refine r_iconst (v := 2) C dX12_honestly_131 (by decide) ?_
          refine r_iload_n C dX12_honestly_132 rfl ?_
          refine r_imul C dX12_honestly_133 ?_
          refine r_icmp_eq (tgt := 168) C dX12_honestly_134 (by decide) (fun c26 => ?_) (fun c26 => ?_)
          · rw [if_pos c26] at hf1
            exact J168 h24 t6 hf1
          · rw [if_neg c26] at hf1
            refine r_aload_n C dX12_honestly_137 rfl ?_
            obtain ⟨u28, e27, hf1⟩ := ob hf1
            obtain ⟨t29, e30, hf1⟩ := ob hf1
            refine r_cV (ci := 12) (rest := []) (st2 := [.int t29]) C (s_X12_isMeant e30) mk_X12_isMeant rfl (ck_k e27) (by decide) im_X12_isMeant sl_X12_isMeant lk_X12_349 rfl rfl rfl dX12_honestly_138 (Nat.le_of_ble_eq_true rfl) ⟨Nat.le_of_ble_eq_true rfl, Nat.le_of_ble_eq_true rfl⟩ ⟨Nat.le_of_ble_eq_true rfl, Nat.le_of_ble_eq_true rfl⟩ ?_
            refine r_ifne (tgt := 147) C dX12_honestly_141 (by decide) (fun c31 => ?_) (fun c31 => ?_)
            · rw [if_neg c31] at hf1
              refine r_aload_n C dX12_honestly_147 rfl ?_
              refine r_iload_n C dX12_honestly_148 rfl ?_
              obtain ⟨u33, e32, hf1⟩ := ob hf1
              obtain ⟨t34, e35, hf1⟩ := ob hf1
              refine r_cV (ci := 12) (rest := []) (st2 := [.int t34]) C (s_X12_liesTo e35) mk_X12_liesTo rfl (ck_k e32) (by decide) im_X12_liesTo sl_X12_liesTo lk_X12_352 rfl rfl rfl dX12_honestly_149 (Nat.le_of_ble_eq_true rfl) ⟨Nat.le_of_ble_eq_true rfl, Nat.le_of_ble_eq_true rfl⟩ ⟨Nat.le_of_ble_eq_true rfl, Nat.le_of_ble_eq_true rfl⟩ ?_
              refine r_iload_n C dX12_honestly_152 rfl ?_
              refine r_ifeq (tgt := 160) C dX12_honestly_153 (by decide) (fun c36 => ?_) (fun c36 => ?_)
              · rw [if_pos c36] at hf1
                refine r_iconst (v := 1) C dX12_honestly_160 (by decide) ?_
                exact J161 h24 t6 t34 (1 : Int32) hf1
              · rw [if_neg c36] at hf1
                refine r_iconst (v := 2) C dX12_honestly_156 (by decide) ?_
                refine r_goto (tgt := 161) C dX12_honestly_157 (by decide) ?_
                exact J161 h24 t6 t34 (2 : Int32) hf1
            · rw [if_pos c31] at hf1
              refine r_goto (tgt := 168) C dX12_honestly_144 (by decide) ?_
              exact J168 h24 t6 hf1
    refine r_subk [1, 2, 3, 0] (lv' := [(0, .ref t2), (1, .int t3), (2, .int t4), (4, .int (0 : Int32))]) rfl ?_
    exact L110 wN (0 : Int32) h1 hl110
  refine r_iconst (v := 1) C dX12_honestly_0 (by decide) ?_
  refine r_istore_n (lv' := [(2, .int (1 : Int32)), (0, .ref v0), (1, .int v1)]) C dX12_honestly_1 (by decide) rfl rfl ?_
  refine r_iconst (v := 1) C dX12_honestly_2 (by decide) ?_
  refine r_istore_n (lv' := [(3, .int (1 : Int32)), (2, .int (1 : Int32)), (0, .ref v0), (1, .int v1)]) C dX12_honestly_3 (by decide) rfl rfl ?_
  refine r_iconst (v := 0) C dX12_honestly_4 (by decide) ?_
  refine r_istore (lv' := [(4, .int (0 : Int32)), (3, .int (1 : Int32)), (2, .int (1 : Int32)), (0, .ref v0), (1, .int v1)]) C dX12_honestly_5 (by decide) rfl rfl ?_
  obtain ⟨y37, y38, hl7, hf0⟩ := ob2 hf0
  have L7 : ∀ (n : Nat) (t39 : Int32) (t40 : Int32) (t41 : Int32), whileL n (fun q : Int32 × Int32 × Int32 => f_X12_honestly_b7 h v0 v1 q.1 q.2.1 q.2.2) (t39, t40, t41) = some (y37, y38) → gW p l e (rmO 1 0 0) s m args below meth c (MQ below (eQ D cA B Hb out.2 (some (.int out.1))) args s 0 0 (fun q => B ≤ q)) D cA B Hb 5 h 7 [(0, .ref v0), (1, .int v1), (2, .int t39), (3, .int t40), (4, .int t41)] [] 0 0 := by
    intro n
    induction n with
    | zero => intro t39 t40 t41 hz; cases hz
    | succ n ih7 =>
      intro t39 t40 t41 hz
      obtain ⟨x7, hf1, hk7⟩ := wl hz
      replace hf1 : f_X12_honestly_b7 h v0 v1 t39 t40 t41 = some x7 := hf1
      unfold f_X12_honestly_b7 at hf1
      have J88 : ∀ (t42 : Int32) (t43 : Int32) (t44 : Int32), f_X12_honestly_j88 h v0 v1 t42 t43 t44 = some x7 → gW p l e (rmO 1 0 0) s m args below meth c (MQ below (eQ D cA B Hb out.2 (some (.int out.1))) args s 0 0 (fun q => B ≤ q)) D cA B Hb 5 h 88 [(0, .ref v0), (1, .int v1), (2, .int t42), (4, .int t43)] [.int t44] 0 0 := by
        intro t42 t43 t44 hf1
        unfold f_X12_honestly_j88 at hf1
        refine r_istore_n (lv' := [(3, .int t44), (0, .ref v0), (1, .int v1), (2, .int t42), (4, .int t43)]) C dX12_honestly_88 (by decide) rfl rfl ?_
        obtain ⟨t45, e46, hf1⟩ := ob hf1
        refine r_iinc (lv' := [(4, .int t45), (3, .int t44), (0, .ref v0), (1, .int v1), (2, .int t42)]) C dX12_honestly_89 rfl e46 (by decide) rfl ?_
        refine r_goto (tgt := 7) C dX12_honestly_92 (by decide) ?_
        obtain rfl := so hf1
        refine r_subk [2, 3, 4, 1, 0] (lv' := [(0, .ref v0), (1, .int v1), (2, .int t42), (3, .int t44), (4, .int t45)]) rfl ?_
        exact ih7 t42 t44 t45 hk7
      have J87 : ∀ (t47 : Int32) (t48 : Int32), f_X12_honestly_j87 h v0 v1 t47 t48 = some x7 → gW p l e (rmO 1 0 0) s m args below meth c (MQ below (eQ D cA B Hb out.2 (some (.int out.1))) args s 0 0 (fun q => B ≤ q)) D cA B Hb 5 h 87 [(0, .ref v0), (1, .int v1), (2, .int t47), (4, .int t48)] [] 0 0 := by
        intro t47 t48 hf1
        unfold f_X12_honestly_j87 at hf1
        refine r_iconst (v := 0) C dX12_honestly_87 (by decide) ?_
        exact J88 t47 t48 (0 : Int32) hf1
      have J52 : ∀ (t49 : Int32) (t50 : Int32) (t51 : Int32), f_X12_honestly_j52 h v0 v1 t49 t50 t51 = some x7 → gW p l e (rmO 1 0 0) s m args below meth c (MQ below (eQ D cA B Hb out.2 (some (.int out.1))) args s 0 0 (fun q => B ≤ q)) D cA B Hb 5 h 52 [(0, .ref v0), (1, .int v1), (3, .int t49), (4, .int t50)] [.int t51] 0 0 := by
        intro t49 t50 t51 hf1
        unfold f_X12_honestly_j52 at hf1
        refine r_istore_n (lv' := [(2, .int t51), (0, .ref v0), (1, .int v1), (3, .int t49), (4, .int t50)]) C dX12_honestly_52 (by decide) rfl rfl ?_
        refine r_iload_n C dX12_honestly_53 rfl ?_
        refine r_ifeq (tgt := 87) C dX12_honestly_54 (by decide) (fun c52 => ?_) (fun c52 => ?_)
        · rw [if_pos c52] at hf1
          refine r_subk [1, 2, 0, 4] (lv' := [(0, .ref v0), (1, .int v1), (2, .int t51), (4, .int t50)]) rfl ?_
          exact J87 t51 t50 hf1
        · rw [if_neg c52] at hf1
          refine r_aload_n C dX12_honestly_57 rfl ?_
          obtain ⟨t53, e54, hf1⟩ := ob hf1
          refine r_getR C fk_X12_63 rfl dX12_honestly_58 e54 ?_
          refine r_iload C dX12_honestly_61 rfl ?_
          obtain ⟨t55, e56, hf1⟩ := ob hf1
          refine r_ldJ C dX12_honestly_63 e56 ?_
          refine r_aload_n C dX12_honestly_64 rfl ?_
          obtain ⟨t57, e58, hf1⟩ := ob hf1
          refine r_getR C fk_X12_13 rfl dX12_honestly_65 e58 ?_
          refine r_iconst (v := 4) C dX12_honestly_68 (by decide) ?_
          refine r_iconst (v := 4) C dX12_honestly_69 (by decide) ?_
          refine r_iload_n C dX12_honestly_70 rfl ?_
          refine r_imul C dX12_honestly_71 ?_
          refine r_iadd C dX12_honestly_72 ?_
          refine r_iload C dX12_honestly_73 rfl ?_
          refine r_iadd C dX12_honestly_75 ?_
          obtain ⟨t59, e60, hf1⟩ := ob hf1
          refine r_ldJ C dX12_honestly_76 e60 ?_
          refine r_land C dX12_honestly_77 ?_
          refine r_lconst (v := 0) C dX12_honestly_78 (by decide) ?_
          refine r_lcmp C dX12_honestly_79 ?_
          refine r_ifne (tgt := 87) C dX12_honestly_80 (by decide) (fun c61 => ?_) (fun c61 => ?_)
          · rw [if_neg c61] at hf1
            refine r_subk [1, 2, 0, 4] (lv' := [(0, .ref v0), (1, .int v1), (2, .int t51), (4, .int t50)]) rfl ?_
            exact J87 t51 t50 hf1
          · rw [if_pos c61] at hf1
            refine r_iconst (v := 1) C dX12_honestly_83 (by decide) ?_
            refine r_goto (tgt := 88) C dX12_honestly_84 (by decide) ?_
            refine r_subk [1, 2, 0, 4] (lv' := [(0, .ref v0), (1, .int v1), (2, .int t51), (4, .int t50)]) rfl ?_
            exact J88 t51 t50 (1 : Int32) hf1
      have J51 : ∀ (t62 : Int32) (t63 : Int32), f_X12_honestly_j51 h v0 v1 t62 t63 = some x7 → gW p l e (rmO 1 0 0) s m args below meth c (MQ below (eQ D cA B Hb out.2 (some (.int out.1))) args s 0 0 (fun q => B ≤ q)) D cA B Hb 5 h 51 [(0, .ref v0), (1, .int v1), (3, .int t62), (4, .int t63)] [] 0 0 := by
        intro t62 t63 hf1
        unfold f_X12_honestly_j51 at hf1
        refine r_iconst (v := 0) C dX12_honestly_51 (by decide) ?_
        exact J52 t62 t63 (0 : Int32) hf1
      refine r_iload C dX12_honestly_7 rfl ?_
      refine r_iconst (v := 4) C dX12_honestly_9 (by decide) ?_
      refine r_icmp_ge (tgt := 95) C dX12_honestly_10 (by decide) (fun c64 => ?_) (fun c64 => ?_)
      · rw [if_pos c64] at hf1
        obtain rfl := so hf1
        obtain ⟨rfl, rfl⟩ := so2 (show some (t39, t40) = some (y37, y38) from hk7)
        refine r_iload_n C dX12_honestly_95 rfl ?_
        refine r_ifne (tgt := 107) C dX12_honestly_96 (by decide) (fun c65 => ?_) (fun c65 => ?_)
        · rw [if_neg c65] at hf0
          refine r_subk [0, 1, 2] (lv' := [(0, .ref v0), (1, .int v1), (2, .int t39)]) rfl ?_
          exact J107 h v0 v1 t39 hf0
        · rw [if_pos c65] at hf0
          refine r_iload_n C dX12_honestly_99 rfl ?_
          refine r_ifne (tgt := 107) C dX12_honestly_100 (by decide) (fun c66 => ?_) (fun c66 => ?_)
          · rw [if_neg c66] at hf0
            refine r_subk [0, 1, 2] (lv' := [(0, .ref v0), (1, .int v1), (2, .int t39)]) rfl ?_
            exact J107 h v0 v1 t39 hf0
          · rw [if_pos c66] at hf0
            refine r_iconst (v := 2) C dX12_honestly_103 (by decide) ?_
            refine r_iload_n C dX12_honestly_104 rfl ?_
            refine r_imul C dX12_honestly_105 ?_
            obtain rfl := so hf0
            exact r_iret C dX12_honestly_106
      · rw [if_neg c64] at hf1
        refine r_iload_n C dX12_honestly_13 rfl ?_
        refine r_ifeq (tgt := 51) C dX12_honestly_14 (by decide) (fun c67 => ?_) (fun c67 => ?_)
        · rw [if_pos c67] at hf1
          refine r_subk [0, 1, 3, 4] (lv' := [(0, .ref v0), (1, .int v1), (3, .int t40), (4, .int t41)]) rfl ?_
          exact J51 t40 t41 hf1
        · rw [if_neg c67] at hf1
          refine r_aload_n C dX12_honestly_17 rfl ?_
          obtain ⟨t68, e69, hf1⟩ := ob hf1
          refine r_getR C fk_X12_63 rfl dX12_honestly_18 e69 ?_
          refine r_iload C dX12_honestly_21 rfl ?_
          obtain ⟨t70, e71, hf1⟩ := ob hf1
          refine r_ldJ C dX12_honestly_23 e71 ?_
          refine r_aload_n C dX12_honestly_24 rfl ?_
          obtain ⟨t72, e73, hf1⟩ := ob hf1
          refine r_getR C fk_X12_13 rfl dX12_honestly_25 e73 ?_
          refine r_iconst (v := 4) C dX12_honestly_28 (by decide) ?_
          refine r_iconst (v := 4) C dX12_honestly_29 (by decide) ?_
          refine r_iload_n C dX12_honestly_30 rfl ?_
          refine r_imul C dX12_honestly_31 ?_
          refine r_iadd C dX12_honestly_32 ?_
          refine r_iload C dX12_honestly_33 rfl ?_
          refine r_iadd C dX12_honestly_35 ?_
          obtain ⟨t74, e75, hf1⟩ := ob hf1
          refine r_ldJ C dX12_honestly_36 e75 ?_
          refine r_ldc2 (v := -1) C dX12_honestly_37 cl_X12_124 ?_
          refine r_lxor C dX12_honestly_40 ?_
          refine r_land C dX12_honestly_41 ?_
          refine r_lconst (v := 0) C dX12_honestly_42 (by decide) ?_
          refine r_lcmp C dX12_honestly_43 ?_
          refine r_ifne (tgt := 51) C dX12_honestly_44 (by decide) (fun c76 => ?_) (fun c76 => ?_)
          · rw [if_neg c76] at hf1
            refine r_subk [0, 1, 3, 4] (lv' := [(0, .ref v0), (1, .int v1), (3, .int t40), (4, .int t41)]) rfl ?_
            exact J51 t40 t41 hf1
          · rw [if_pos c76] at hf1
            refine r_iconst (v := 1) C dX12_honestly_47 (by decide) ?_
            refine r_goto (tgt := 52) C dX12_honestly_48 (by decide) ?_
            refine r_subk [0, 1, 3, 4] (lv' := [(0, .ref v0), (1, .int v1), (3, .int t40), (4, .int t41)]) rfl ?_
            exact J52 t40 t41 (1 : Int32) hf1
  refine r_subk [3, 4, 2, 1, 0] (lv' := [(0, .ref v0), (1, .int v1), (2, .int (1 : Int32)), (3, .int (1 : Int32)), (4, .int (0 : Int32))]) rfl ?_
  exact L7 wN (1 : Int32) (1 : Int32) (0 : Int32) hl7
def f_X12_otherwise_j48 (h : aH) (v0 : Nat) (v1 : Int32) (v2 : Int32) : Option ((Int32 × aH) ⊕ ((Int32 × aH) ⊕ (aH))) := (some (v2 + (1 : Int32))).bind fun t1 => some (.inl (t1, h))
def f_X12_otherwise_b2 (v0 : Nat) (v1 : Int32) (v2 : Int32) (h : aH) : Option ((Int32 × aH) ⊕ ((Int32 × aH) ⊕ (aH))) := (gR h 12 v0 0).bind fun t2 => (lI h t2 (3 : Int32)).bind fun t3 => if ((2 : Int32) * t3) ≤ v2 then some (.inr (.inr h)) else (nz (2 : Int32)).bind fun _ => if (v2 / (2 : Int32)) = v1 then f_X12_otherwise_j48 h v0 v1 v2 else (ck h 12 v0).bind fun _ => (f_X12_meansBy h v0 v2).bind fun h4 => (ck h4 12 v0).bind fun _ => (f_X12_isMeant h4 v0).bind fun t5 => if t5 = 0 then f_X12_otherwise_j48 h4 v0 v1 v2 else (ck h4 12 v0).bind fun _ => (f_X12_liesTo h4 v0 v1).bind fun t6 => if t6 = (7 : Int32) then some (.inr (.inl (v2, h4))) else f_X12_otherwise_j48 h4 v0 v1 v2
def f_X12_otherwise_l2 (v0 : Nat) (v1 : Int32) (v2 : Int32) (h : aH) : Option ((Int32 × aH) ⊕ (aH)) := whileL wN (fun q : Int32 × aH => f_X12_otherwise_b2 v0 v1 q.1 q.2) (v2, h)
def f_X12_otherwise (h : aH) (v0 : Nat) (v1 : Int32) : Option (Int32 × aH) := (f_X12_otherwise_l2 v0 v1 (0 : Int32) h).bind fun e => match e with | .inl (t7, h8) => some (t7, h8) | .inr h9 => some ((2 : Int32) * v1, h9)
theorem s_X12_otherwise {h : aH} {v0 : Nat} {v1 : Int32} {out : Int32 × aH} (hf0 : f_X12_otherwise h v0 v1 = some out) : EV 1 yX12_otherwise cX12_otherwise 3 (some .int) h [.ref v0, .int v1] (some (.int out.1)) out.2 0 0 := by
  refine EV.of (own := RX12) (lv0 := [(0, .ref v0), (1, .int v1)]) (by decide +kernel) rfl rfl (Nat.le_of_ble_eq_true rfl) ?_
  intro p l e s m args below meth c D cA B Hb C hin
  unfold f_X12_otherwise at hf0
  refine r_iconst (v := 0) C dX12_otherwise_0 (by decide) ?_
  refine r_istore_n (lv' := [(2, .int (0 : Int32)), (0, .ref v0), (1, .int v1)]) C dX12_otherwise_1 (by decide) rfl rfl ?_
  obtain ⟨y1, hl2, hf0⟩ := ob hf0
  have L2 : ∀ (n : Nat) (t2 : Int32) (h3 : aH), whileL n (fun q : Int32 × aH => f_X12_otherwise_b2 v0 v1 q.1 q.2) (t2, h3) = some y1 → gW p l e (rmO 1 0 0) s m args below meth c (MQ below (eQ D cA B Hb out.2 (some (.int out.1))) args s 0 0 (fun q => B ≤ q)) D cA B Hb 3 h3 2 [(0, .ref v0), (1, .int v1), (2, .int t2)] [] 0 0 := by
    intro n
    induction n with
    | zero => intro t2 h3 hz; cases hz
    | succ n ih2 =>
      intro t2 h3 hz
      obtain ⟨x2, hf1, hk2⟩ := wl hz
      replace hf1 : f_X12_otherwise_b2 v0 v1 t2 h3 = some x2 := hf1
      unfold f_X12_otherwise_b2 at hf1
      have J48 : ∀ (h4 : aH) (t5 : Int32), f_X12_otherwise_j48 h4 v0 v1 t5 = some x2 → gW p l e (rmO 1 0 0) s m args below meth c (MQ below (eQ D cA B Hb out.2 (some (.int out.1))) args s 0 0 (fun q => B ≤ q)) D cA B Hb 3 h4 48 [(0, .ref v0), (1, .int v1), (2, .int t5)] [] 0 0 := by
        intro h4 t5 hf1
        unfold f_X12_otherwise_j48 at hf1
        obtain ⟨t6, e7, hf1⟩ := ob hf1
        refine r_iinc (lv' := [(2, .int t6), (0, .ref v0), (1, .int v1)]) C dX12_otherwise_48 rfl e7 (by decide) rfl ?_
        refine r_goto (tgt := 2) C dX12_otherwise_51 (by decide) ?_
        obtain rfl := so hf1
        refine r_subk [1, 2, 0] (lv' := [(0, .ref v0), (1, .int v1), (2, .int t6)]) rfl ?_
        exact ih2 t6 h4 hk2
      refine r_iload_n C dX12_otherwise_2 rfl ?_
      refine r_iconst (v := 2) C dX12_otherwise_3 (by decide) ?_
      refine r_aload_n C dX12_otherwise_4 rfl ?_
      obtain ⟨t8, e9, hf1⟩ := ob hf1
      refine r_getR C fk_X12_7 rfl dX12_otherwise_5 e9 ?_
      refine r_iconst (v := 3) C dX12_otherwise_8 (by decide) ?_
      obtain ⟨t10, e11, hf1⟩ := ob hf1
      refine r_ldI C dX12_otherwise_9 e11 ?_
      refine r_imul C dX12_otherwise_10 ?_
      refine r_icmp_ge (tgt := 54) C dX12_otherwise_11 (by decide) (fun c12 => ?_) (fun c12 => ?_)
      · rw [if_pos c12] at hf1
        obtain rfl := so hf1
        obtain rfl := so (show some (.inr h3 : (Int32 × aH) ⊕ (aH)) = some y1 from hk2)
        dsimp only at hf0
        refine r_iconst (v := 2) C dX12_otherwise_54 (by decide) ?_
        refine r_iload_n C dX12_otherwise_55 rfl ?_
        refine r_imul C dX12_otherwise_56 ?_
        obtain rfl := so hf0
        exact r_iret C dX12_otherwise_57
      · rw [if_neg c12] at hf1
        refine r_iload_n C dX12_otherwise_14 rfl ?_
        refine r_iconst (v := 2) C dX12_otherwise_15 (by decide) ?_
        obtain ⟨u14, e13, hf1⟩ := ob hf1
        refine r_idiv C dX12_otherwise_16 (nz_k e13) ?_
        refine r_iload_n C dX12_otherwise_17 rfl ?_
        refine r_icmp_ne (tgt := 24) C dX12_otherwise_18 (by decide) (fun c15 => ?_) (fun c15 => ?_)
        · rw [if_neg c15] at hf1
          refine r_aload_n C dX12_otherwise_24 rfl ?_
          refine r_iload_n C dX12_otherwise_25 rfl ?_
          obtain ⟨u17, e16, hf1⟩ := ob hf1
          obtain ⟨h18, e19, hf1⟩ := ob hf1
          refine r_cV (ci := 12) (rest := []) (st2 := []) C (s_X12_meansBy e19) mk_X12_meansBy rfl (ck_k e16) (by decide) im_X12_meansBy sl_X12_meansBy lk_X12_346 rfl rfl rfl dX12_otherwise_26 (Nat.le_of_ble_eq_true rfl) ⟨Nat.le_of_ble_eq_true rfl, Nat.le_of_ble_eq_true rfl⟩ ⟨Nat.le_of_ble_eq_true rfl, Nat.le_of_ble_eq_true rfl⟩ ?_
          refine r_aload_n C dX12_otherwise_29 rfl ?_
          obtain ⟨u21, e20, hf1⟩ := ob hf1
          obtain ⟨t22, e23, hf1⟩ := ob hf1
          refine r_cV (ci := 12) (rest := []) (st2 := [.int t22]) C (s_X12_isMeant e23) mk_X12_isMeant rfl (ck_k e20) (by decide) im_X12_isMeant sl_X12_isMeant lk_X12_349 rfl rfl rfl dX12_otherwise_30 (Nat.le_of_ble_eq_true rfl) ⟨Nat.le_of_ble_eq_true rfl, Nat.le_of_ble_eq_true rfl⟩ ⟨Nat.le_of_ble_eq_true rfl, Nat.le_of_ble_eq_true rfl⟩ ?_
          refine r_ifeq (tgt := 48) C dX12_otherwise_33 (by decide) (fun c24 => ?_) (fun c24 => ?_)
          · rw [if_pos c24] at hf1
            exact J48 h18 t2 hf1
          · rw [if_neg c24] at hf1
            refine r_aload_n C dX12_otherwise_36 rfl ?_
            refine r_iload_n C dX12_otherwise_37 rfl ?_
            obtain ⟨u26, e25, hf1⟩ := ob hf1
            obtain ⟨t27, e28, hf1⟩ := ob hf1
            refine r_cV (ci := 12) (rest := []) (st2 := [.int t27]) C (s_X12_liesTo e28) mk_X12_liesTo rfl (ck_k e25) (by decide) im_X12_liesTo sl_X12_liesTo lk_X12_352 rfl rfl rfl dX12_otherwise_38 (Nat.le_of_ble_eq_true rfl) ⟨Nat.le_of_ble_eq_true rfl, Nat.le_of_ble_eq_true rfl⟩ ⟨Nat.le_of_ble_eq_true rfl, Nat.le_of_ble_eq_true rfl⟩ ?_
            refine r_bipush (v := 7) C dX12_otherwise_41 (by decide) ?_
            refine r_icmp_ne (tgt := 48) C dX12_otherwise_43 (by decide) (fun c29 => ?_) (fun c29 => ?_)
            · rw [if_neg c29] at hf1
              exact J48 h18 t2 hf1
            · rw [if_pos c29] at hf1
              obtain rfl := so hf1
              obtain rfl := so (show some (.inl (t2, h18) : (Int32 × aH) ⊕ (aH)) = some y1 from hk2)
              dsimp only at hf0
              refine r_iload_n C dX12_otherwise_46 rfl ?_
              obtain rfl := so hf0
              exact r_iret C dX12_otherwise_47
        · rw [if_pos c15] at hf1
          refine r_goto (tgt := 48) C dX12_otherwise_21 (by decide) ?_
          exact J48 h3 t2 hf1
  refine r_subk [1, 2, 0] (lv' := [(0, .ref v0), (1, .int v1), (2, .int (0 : Int32))]) rfl ?_
  exact L2 wN (0 : Int32) h hl2
def f_X12_laysAnswers_j199 (h : aH) (v0 : Nat) (v1 : Int32) (v2 : Int32) : Option ((Int32 × aH) ⊕ (aH)) := (some (v2 + (1 : Int32))).bind fun t3 => some (.inl (t3, h))
def f_X12_laysAnswers_j180 (h : aH) (v0 : Nat) (v1 : Int32) (v2 : Int32) (v3 : Int32) (v4 : Int32) (s0 : Nat) (s1 : Int32) (s2 : Int32) : Option ((Int32 × aH) ⊕ (aH)) := (sI h s0 s1 s2).bind fun h8 => (gR h8 12 v0 31).bind fun t9 => (sI h8 t9 (v4 + (3 : Int32)) ((2 : Int32) * v3)).bind fun h10 => (some (v3 + (1 : Int32))).bind fun t11 => some (.inl (t11, h10))
def f_X12_laysAnswers_j136 (h : aH) (v0 : Nat) (v1 : Int32) (v2 : Int32) (v3 : Int32) (v4 : Int32) (v5 : Int32) (v6 : Int32) (s0 : Nat) (s1 : Int32) (s2 : Int32) : Option ((Int32 × aH) ⊕ (aH)) := (sI h s0 s1 s2).bind fun h12 => (gR h12 12 v0 31).bind fun t13 => if v6 = 0 then if v5 = ((2 : Int32) * v3) then f_X12_laysAnswers_j180 h12 v0 v1 v2 v3 v4 t13 (v4 + (1 : Int32)) ((2 : Int32) * v3) else f_X12_laysAnswers_j180 h12 v0 v1 v2 v3 v4 t13 (v4 + (1 : Int32)) (v5 ^^^ (1 : Int32)) else (gR h12 12 v0 31).bind fun t14 => (lI h12 t14 (v4 + (2 : Int32))).bind fun t15 => f_X12_laysAnswers_j180 h12 v0 v1 v2 v3 v4 t13 (v4 + (1 : Int32)) t15
def f_X12_laysAnswers_j95 (h : aH) (v0 : Nat) (v1 : Int32) (v2 : Int32) (v3 : Int32) (v4 : Int32) (v5 : Int32) (s0 : Int32) : Option ((Int32 × aH) ⊕ (aH)) := (gR h 12 v0 31).bind fun t16 => (ck h 12 v0).bind fun _ => bd2 (f_X12_otherwise h v0 v3) fun t17 h18 => (sI h18 t16 (v4 + (2 : Int32)) t17).bind fun h19 => (gR h19 12 v0 31).bind fun t20 => if s0 = 0 then f_X12_laysAnswers_j136 h19 v0 v1 v2 v3 v4 v5 s0 t20 v4 v5 else (gR h19 12 v0 31).bind fun t21 => (lI h19 t21 (v4 + (2 : Int32))).bind fun t22 => f_X12_laysAnswers_j136 h19 v0 v1 v2 v3 v4 v5 s0 t20 v4 t22
def f_X12_laysAnswers_b43 (v0 : Nat) (v1 : Int32) (v2 : Int32) (v3 : Int32) (h : aH) : Option ((Int32 × aH) ⊕ (aH)) := (gR h 12 v0 0).bind fun t23 => (lI h t23 (3 : Int32)).bind fun t24 => if t24 ≤ v3 then some (.inr h) else (some ((4 : Int32) * (((256 : Int32) * (((12 : Int32) * v1) + v3)) + v2))).bind fun t25 => (ck h 12 v0).bind fun _ => bd2 (f_X12_honestly h v0 v3) fun t26 h27 => (ck h27 12 v0).bind fun _ => (f_X12_ofWitness h27 v0 v1 (5 : Int32)).bind fun t28 => if ((t28 >>> (v3 &&& 31)) &&& (1 : Int32)) = (1 : Int32) then f_X12_laysAnswers_j95 h27 v0 v1 v2 v3 t25 t26 (1 : Int32) else f_X12_laysAnswers_j95 h27 v0 v1 v2 v3 t25 t26 (0 : Int32)
def f_X12_laysAnswers_l43 (v0 : Nat) (v1 : Int32) (v2 : Int32) (v3 : Int32) (h : aH) : Option (aH) := whileL wN (fun q : Int32 × aH => f_X12_laysAnswers_b43 v0 v1 v2 q.1 q.2) (v3, h)
def f_X12_laysAnswers_b14 (v0 : Nat) (v1 : Int32) (v2 : Int32) (h : aH) : Option ((Int32 × aH) ⊕ (aH)) := (gR h 12 v0 0).bind fun t4 => (lI h t4 (2 : Int32)).bind fun t5 => if t5 ≤ v2 then some (.inr h) else (ck h 12 v0).bind fun _ => (f_X12_isPossible h v0 v2).bind fun t6 => if t6 = 0 then f_X12_laysAnswers_j199 h v0 v1 v2 else (ck h 12 v0).bind fun _ => (f_X12_knowsIn h v0 v1 v2).bind fun h7 => (f_X12_laysAnswers_l43 v0 v1 v2 (0 : Int32) h7).bind fun h29 => f_X12_laysAnswers_j199 h29 v0 v1 v2
def f_X12_laysAnswers_l14 (v0 : Nat) (v1 : Int32) (v2 : Int32) (h : aH) : Option (aH) := whileL wN (fun q : Int32 × aH => f_X12_laysAnswers_b14 v0 v1 q.1 q.2) (v2, h)
def f_X12_laysAnswers_b2 (v0 : Nat) (v1 : Int32) (h : aH) : Option ((Int32 × aH) ⊕ (aH)) := (gR h 12 v0 0).bind fun t1 => (lI h t1 (4 : Int32)).bind fun t2 => if t2 ≤ v1 then some (.inr h) else (f_X12_laysAnswers_l14 v0 v1 (0 : Int32) h).bind fun h30 => (some (v1 + (1 : Int32))).bind fun t31 => some (.inl (t31, h30))
def f_X12_laysAnswers_l2 (v0 : Nat) (v1 : Int32) (h : aH) : Option (aH) := whileL wN (fun q : Int32 × aH => f_X12_laysAnswers_b2 v0 q.1 q.2) (v1, h)
def f_X12_laysAnswers (h : aH) (v0 : Nat) : Option (aH) := (f_X12_laysAnswers_l2 v0 (0 : Int32) h).bind fun h32 => some h32
theorem s_X12_laysAnswers {h : aH} {v0 : Nat} {out : aH} (hf0 : f_X12_laysAnswers h v0 = some out) : EV 3 yX12_laysAnswers cX12_laysAnswers 7 none h [.ref v0] none out 0 0 := by
  refine EV.of (own := RX12) (lv0 := [(0, .ref v0)]) (by decide +kernel) rfl rfl (Nat.le_of_ble_eq_true rfl) ?_
  intro p l e s m args below meth c D cA B Hb C hin
  unfold f_X12_laysAnswers at hf0
  refine r_iconst (v := 0) C dX12_laysAnswers_0 (by decide) ?_
  refine r_istore_n (lv' := [(1, .int (0 : Int32)), (0, .ref v0)]) C dX12_laysAnswers_1 (by decide) rfl rfl ?_
  obtain ⟨y1, hl2, hf0⟩ := ob hf0
  have L2 : ∀ (n : Nat) (t2 : Int32) (h3 : aH), whileL n (fun q : Int32 × aH => f_X12_laysAnswers_b2 v0 q.1 q.2) (t2, h3) = some y1 → gW p l e (rmO 3 0 0) s m args below meth c (MQ below (eQ D cA B Hb out none) args s 0 0 (fun q => B ≤ q)) D cA B Hb 7 h3 2 [(0, .ref v0), (1, .int t2)] [] 0 0 := by
    intro n
    induction n with
    | zero => intro t2 h3 hz; cases hz
    | succ n ih2 =>
      intro t2 h3 hz
      obtain ⟨x2, hf1, hk2⟩ := wl hz
      replace hf1 : f_X12_laysAnswers_b2 v0 t2 h3 = some x2 := hf1
      unfold f_X12_laysAnswers_b2 at hf1
      refine r_iload_n C dX12_laysAnswers_2 rfl ?_
      refine r_aload_n C dX12_laysAnswers_3 rfl ?_
      obtain ⟨t4, e5, hf1⟩ := ob hf1
      refine r_getR C fk_X12_7 rfl dX12_laysAnswers_4 e5 ?_
      refine r_iconst (v := 4) C dX12_laysAnswers_7 (by decide) ?_
      obtain ⟨t6, e7, hf1⟩ := ob hf1
      refine r_ldI C dX12_laysAnswers_8 e7 ?_
      refine r_icmp_ge (tgt := 211) C dX12_laysAnswers_9 (by decide) (fun c8 => ?_) (fun c8 => ?_)
      · rw [if_pos c8] at hf1
        obtain rfl := so hf1
        obtain rfl := so (show some h3 = some y1 from hk2)
        obtain rfl := so hf0
        exact r_vret C dX12_laysAnswers_211
      · rw [if_neg c8] at hf1
        refine r_iconst (v := 0) C dX12_laysAnswers_12 (by decide) ?_
        refine r_istore_n (lv' := [(2, .int (0 : Int32)), (0, .ref v0), (1, .int t2)]) C dX12_laysAnswers_13 (by decide) rfl rfl ?_
        obtain ⟨y9, hl14, hf1⟩ := ob hf1
        have L14 : ∀ (n : Nat) (t10 : Int32) (h11 : aH), whileL n (fun q : Int32 × aH => f_X12_laysAnswers_b14 v0 t2 q.1 q.2) (t10, h11) = some y9 → gW p l e (rmO 3 0 0) s m args below meth c (MQ below (eQ D cA B Hb out none) args s 0 0 (fun q => B ≤ q)) D cA B Hb 7 h11 14 [(0, .ref v0), (1, .int t2), (2, .int t10)] [] 0 0 := by
          intro n
          induction n with
          | zero => intro t10 h11 hz; cases hz
          | succ n ih14 =>
            intro t10 h11 hz
            obtain ⟨x14, hf2, hk14⟩ := wl hz
            replace hf2 : f_X12_laysAnswers_b14 v0 t2 t10 h11 = some x14 := hf2
            unfold f_X12_laysAnswers_b14 at hf2
            have J199 : ∀ (h12 : aH) (t13 : Int32), f_X12_laysAnswers_j199 h12 v0 t2 t13 = some x14 → gW p l e (rmO 3 0 0) s m args below meth c (MQ below (eQ D cA B Hb out none) args s 0 0 (fun q => B ≤ q)) D cA B Hb 7 h12 199 [(0, .ref v0), (1, .int t2), (2, .int t13)] [] 0 0 := by
              intro h12 t13 hf2
              unfold f_X12_laysAnswers_j199 at hf2
              obtain ⟨t14, e15, hf2⟩ := ob hf2
              refine r_iinc (lv' := [(2, .int t14), (0, .ref v0), (1, .int t2)]) C dX12_laysAnswers_199 rfl e15 (by decide) rfl ?_
              refine r_goto (tgt := 14) C dX12_laysAnswers_202 (by decide) ?_
              obtain rfl := so hf2
              refine r_subk [1, 2, 0] (lv' := [(0, .ref v0), (1, .int t2), (2, .int t14)]) rfl ?_
              exact ih14 t14 h12 hk14
            refine r_iload_n C dX12_laysAnswers_14 rfl ?_
            refine r_aload_n C dX12_laysAnswers_15 rfl ?_
            obtain ⟨t16, e17, hf2⟩ := ob hf2
            refine r_getR C fk_X12_7 rfl dX12_laysAnswers_16 e17 ?_
            refine r_iconst (v := 2) C dX12_laysAnswers_19 (by decide) ?_
            obtain ⟨t18, e19, hf2⟩ := ob hf2
            refine r_ldI C dX12_laysAnswers_20 e19 ?_
            refine r_icmp_ge (tgt := 205) C dX12_laysAnswers_21 (by decide) (fun c20 => ?_) (fun c20 => ?_)
            · rw [if_pos c20] at hf2
              obtain rfl := so hf2
              obtain rfl := so (show some h11 = some y9 from hk14)
              obtain ⟨t21, e22, hf1⟩ := ob hf1
              refine r_iinc (lv' := [(1, .int t21), (0, .ref v0), (2, .int t10)]) C dX12_laysAnswers_205 rfl e22 (by decide) rfl ?_
              refine r_goto (tgt := 2) C dX12_laysAnswers_208 (by decide) ?_
              obtain rfl := so hf1
              refine r_subk [1, 0] (lv' := [(0, .ref v0), (1, .int t21)]) rfl ?_
              exact ih2 t21 h11 hk2
            · rw [if_neg c20] at hf2
              refine r_aload_n C dX12_laysAnswers_24 rfl ?_
              refine r_iload_n C dX12_laysAnswers_25 rfl ?_
              obtain ⟨u24, e23, hf2⟩ := ob hf2
              obtain ⟨t25, e26, hf2⟩ := ob hf2
              refine r_cV (ci := 12) (rest := []) (st2 := [.int t25]) C (s_X12_isPossible e26) mk_X12_isPossible rfl (ck_k e23) (by decide) im_X12_isPossible sl_X12_isPossible lk_X12_331 rfl rfl rfl dX12_laysAnswers_26 (Nat.le_of_ble_eq_true rfl) ⟨Nat.le_of_ble_eq_true rfl, Nat.le_of_ble_eq_true rfl⟩ ⟨Nat.le_of_ble_eq_true rfl, Nat.le_of_ble_eq_true rfl⟩ ?_
              refine r_ifne (tgt := 35) C dX12_laysAnswers_29 (by decide) (fun c27 => ?_) (fun c27 => ?_)
              · rw [if_neg c27] at hf2
                refine r_aload_n C dX12_laysAnswers_35 rfl ?_
                refine r_iload_n C dX12_laysAnswers_36 rfl ?_
                refine r_iload_n C dX12_laysAnswers_37 rfl ?_
                obtain ⟨u29, e28, hf2⟩ := ob hf2
                obtain ⟨h30, e31, hf2⟩ := ob hf2
                refine r_cV (ci := 12) (rest := []) (st2 := []) C (s_X12_knowsIn e31) mk_X12_knowsIn rfl (ck_k e28) (by decide) im_X12_knowsIn sl_X12_knowsIn lk_X12_355 rfl rfl rfl dX12_laysAnswers_38 (Nat.le_of_ble_eq_true rfl) ⟨Nat.le_of_ble_eq_true rfl, Nat.le_of_ble_eq_true rfl⟩ ⟨Nat.le_of_ble_eq_true rfl, Nat.le_of_ble_eq_true rfl⟩ ?_
                refine r_iconst (v := 0) C dX12_laysAnswers_41 (by decide) ?_
                refine r_istore_n (lv' := [(3, .int (0 : Int32)), (0, .ref v0), (1, .int t2), (2, .int t10)]) C dX12_laysAnswers_42 (by decide) rfl rfl ?_
                obtain ⟨y32, hl43, hf2⟩ := ob hf2
                have L43 : ∀ (n : Nat) (t33 : Int32) (h34 : aH), whileL n (fun q : Int32 × aH => f_X12_laysAnswers_b43 v0 t2 t10 q.1 q.2) (t33, h34) = some y32 → gW p l e (rmO 3 0 0) s m args below meth c (MQ below (eQ D cA B Hb out none) args s 0 0 (fun q => B ≤ q)) D cA B Hb 7 h34 43 [(0, .ref v0), (1, .int t2), (2, .int t10), (3, .int t33)] [] 0 0 := by
                  intro n
                  induction n with
                  | zero => intro t33 h34 hz; cases hz
                  | succ n ih43 =>
                    intro t33 h34 hz
                    obtain ⟨x43, hf3, hk43⟩ := wl hz
                    replace hf3 : f_X12_laysAnswers_b43 v0 t2 t10 t33 h34 = some x43 := hf3
                    unfold f_X12_laysAnswers_b43 at hf3
                    have J180 : ∀ (h35 : aH) (t36 : Int32) (t37 : Int32) (t38 : Nat) (t39 : Int32) (t40 : Int32), f_X12_laysAnswers_j180 h35 v0 t2 t10 t36 t37 t38 t39 t40 = some x43 → gW p l e (rmO 3 0 0) s m args below meth c (MQ below (eQ D cA B Hb out none) args s 0 0 (fun q => B ≤ q)) D cA B Hb 7 h35 180 [(0, .ref v0), (1, .int t2), (2, .int t10), (3, .int t36), (4, .int t37)] [.int t40, .int t39, .ref t38] 0 0 := by
                      intro h35 t36 t37 t38 t39 t40 hf3
                      unfold f_X12_laysAnswers_j180 at hf3
                      obtain ⟨h41, e42, hf3⟩ := ob hf3
                      refine r_stI C dX12_laysAnswers_180 e42 ?_
                      refine r_aload_n C dX12_laysAnswers_181 rfl ?_
                      obtain ⟨t43, e44, hf3⟩ := ob hf3
                      refine r_getR C fk_X12_60 rfl dX12_laysAnswers_182 e44 ?_
                      refine r_iload C dX12_laysAnswers_185 rfl ?_
                      refine r_iconst (v := 3) C dX12_laysAnswers_187 (by decide) ?_
                      refine r_iadd C dX12_laysAnswers_188 ?_
                      refine r_iconst (v := 2) C dX12_laysAnswers_189 (by decide) ?_
                      refine r_iload_n C dX12_laysAnswers_190 rfl ?_
                      refine r_imul C dX12_laysAnswers_191 ?_
                      obtain ⟨h45, e46, hf3⟩ := ob hf3
                      refine r_stI C dX12_laysAnswers_192 e46 ?_
                      obtain ⟨t47, e48, hf3⟩ := ob hf3
                      refine r_iinc (lv' := [(3, .int t47), (0, .ref v0), (1, .int t2), (2, .int t10), (4, .int t37)]) C dX12_laysAnswers_193 rfl e48 (by decide) rfl ?_
                      refine r_goto (tgt := 43) C dX12_laysAnswers_196 (by decide) ?_
                      obtain rfl := so hf3
                      refine r_subk [1, 2, 3, 0] (lv' := [(0, .ref v0), (1, .int t2), (2, .int t10), (3, .int t47)]) rfl ?_
                      exact ih43 t47 h45 hk43
                    have J136 : ∀ (h49 : aH) (t50 : Int32) (t51 : Int32) (t52 : Int32) (t53 : Int32) (t54 : Nat) (t55 : Int32) (t56 : Int32), f_X12_laysAnswers_j136 h49 v0 t2 t10 t50 t51 t52 t53 t54 t55 t56 = some x43 → gW p l e (rmO 3 0 0) s m args below meth c (MQ below (eQ D cA B Hb out none) args s 0 0 (fun q => B ≤ q)) D cA B Hb 7 h49 136 [(0, .ref v0), (1, .int t2), (2, .int t10), (3, .int t50), (4, .int t51), (5, .int t52), (6, .int t53)] [.int t56, .int t55, .ref t54] 0 0 := by
                      intro h49 t50 t51 t52 t53 t54 t55 t56 hf3
                      unfold f_X12_laysAnswers_j136 at hf3
                      obtain ⟨h57, e58, hf3⟩ := ob hf3
                      refine r_stI C dX12_laysAnswers_136 e58 ?_
                      refine r_aload_n C dX12_laysAnswers_137 rfl ?_
                      obtain ⟨t59, e60, hf3⟩ := ob hf3
                      refine r_getR C fk_X12_60 rfl dX12_laysAnswers_138 e60 ?_
                      refine r_iload C dX12_laysAnswers_141 rfl ?_
                      refine r_iconst (v := 1) C dX12_laysAnswers_143 (by decide) ?_
                      refine r_iadd C dX12_laysAnswers_144 ?_
                      refine r_iload C dX12_laysAnswers_145 rfl ?_
                      refine r_ifeq (tgt := 162) C dX12_laysAnswers_147 (by decide) (fun c61 => ?_) (fun c61 => ?_)
                      · rw [if_pos c61] at hf3
                        refine r_iload C dX12_laysAnswers_162 rfl ?_
                        refine r_iconst (v := 2) C dX12_laysAnswers_164 (by decide) ?_
                        refine r_iload_n C dX12_laysAnswers_165 rfl ?_
                        refine r_imul C dX12_laysAnswers_166 ?_
                        refine r_icmp_ne (tgt := 176) C dX12_laysAnswers_167 (by decide) (fun c62 => ?_) (fun c62 => ?_)
                        · rw [if_neg c62] at hf3
                          refine r_iload C dX12_laysAnswers_176 rfl ?_
                          refine r_iconst (v := 1) C dX12_laysAnswers_178 (by decide) ?_
                          refine r_ixor C dX12_laysAnswers_179 ?_
                          refine r_subk [0, 1, 2, 3, 4] (lv' := [(0, .ref v0), (1, .int t2), (2, .int t10), (3, .int t50), (4, .int t51)]) rfl ?_
                          exact J180 h57 t50 t51 t59 (t51 + (1 : Int32)) (t52 ^^^ (1 : Int32)) hf3
                        · rw [if_pos c62] at hf3
                          refine r_iconst (v := 2) C dX12_laysAnswers_170 (by decide) ?_
                          refine r_iload_n C dX12_laysAnswers_171 rfl ?_
                          refine r_imul C dX12_laysAnswers_172 ?_
                          refine r_goto (tgt := 180) C dX12_laysAnswers_173 (by decide) ?_
                          refine r_subk [0, 1, 2, 3, 4] (lv' := [(0, .ref v0), (1, .int t2), (2, .int t10), (3, .int t50), (4, .int t51)]) rfl ?_
                          exact J180 h57 t50 t51 t59 (t51 + (1 : Int32)) ((2 : Int32) * t50) hf3
                      · rw [if_neg c61] at hf3
                        refine r_aload_n C dX12_laysAnswers_150 rfl ?_
                        obtain ⟨t63, e64, hf3⟩ := ob hf3
                        refine r_getR C fk_X12_60 rfl dX12_laysAnswers_151 e64 ?_
                        refine r_iload C dX12_laysAnswers_154 rfl ?_
                        refine r_iconst (v := 2) C dX12_laysAnswers_156 (by decide) ?_
                        refine r_iadd C dX12_laysAnswers_157 ?_
                        obtain ⟨t65, e66, hf3⟩ := ob hf3
                        refine r_ldI C dX12_laysAnswers_158 e66 ?_
                        refine r_goto (tgt := 180) C dX12_laysAnswers_159 (by decide) ?_
                        refine r_subk [0, 1, 2, 3, 4] (lv' := [(0, .ref v0), (1, .int t2), (2, .int t10), (3, .int t50), (4, .int t51)]) rfl ?_
                        exact J180 h57 t50 t51 t59 (t51 + (1 : Int32)) t65 hf3
                    have J95 : ∀ (h67 : aH) (t68 : Int32) (t69 : Int32) (t70 : Int32) (t71 : Int32), f_X12_laysAnswers_j95 h67 v0 t2 t10 t68 t69 t70 t71 = some x43 → gW p l e (rmO 3 0 0) s m args below meth c (MQ below (eQ D cA B Hb out none) args s 0 0 (fun q => B ≤ q)) D cA B Hb 7 h67 95 [(0, .ref v0), (1, .int t2), (2, .int t10), (3, .int t68), (4, .int t69), (5, .int t70)] [.int t71] 0 0 := by
                      intro h67 t68 t69 t70 t71 hf3
                      unfold f_X12_laysAnswers_j95 at hf3
                      refine r_istore (lv' := [(6, .int t71), (0, .ref v0), (1, .int t2), (2, .int t10), (3, .int t68), (4, .int t69), (5, .int t70)]) C dX12_laysAnswers_95 (by decide) rfl rfl ?_
                      refine r_aload_n C dX12_laysAnswers_97 rfl ?_
                      obtain ⟨t72, e73, hf3⟩ := ob hf3
                      refine r_getR C fk_X12_60 rfl dX12_laysAnswers_98 e73 ?_
                      refine r_iload C dX12_laysAnswers_101 rfl ?_
                      refine r_iconst (v := 2) C dX12_laysAnswers_103 (by decide) ?_
                      refine r_iadd C dX12_laysAnswers_104 ?_
                      refine r_aload_n C dX12_laysAnswers_105 rfl ?_
                      refine r_iload_n C dX12_laysAnswers_106 rfl ?_
                      obtain ⟨u75, e74, hf3⟩ := ob hf3
                      obtain ⟨t76, h77, e78, hf3⟩ := ob2 hf3
                      refine r_cV (ci := 12) (rest := [.int (t69 + (2 : Int32)), .ref t72]) (st2 := [.int t76, .int (t69 + (2 : Int32)), .ref t72]) C (s_X12_otherwise e78) mk_X12_otherwise rfl (ck_k e74) (by decide) im_X12_otherwise sl_X12_otherwise lk_X12_362 rfl rfl rfl dX12_laysAnswers_107 (Nat.le_of_ble_eq_true rfl) ⟨Nat.le_of_ble_eq_true rfl, Nat.le_of_ble_eq_true rfl⟩ ⟨Nat.le_of_ble_eq_true rfl, Nat.le_of_ble_eq_true rfl⟩ ?_
                      obtain ⟨h79, e80, hf3⟩ := ob hf3
                      refine r_stI C dX12_laysAnswers_110 e80 ?_
                      refine r_aload_n C dX12_laysAnswers_111 rfl ?_
                      obtain ⟨t81, e82, hf3⟩ := ob hf3
                      refine r_getR C fk_X12_60 rfl dX12_laysAnswers_112 e82 ?_
                      refine r_iload C dX12_laysAnswers_115 rfl ?_
                      refine r_iload C dX12_laysAnswers_117 rfl ?_
                      refine r_ifeq (tgt := 134) C dX12_laysAnswers_119 (by decide) (fun c83 => ?_) (fun c83 => ?_)
                      · rw [if_pos c83] at hf3
                        refine r_iload C dX12_laysAnswers_134 rfl ?_
                        refine r_subk [1, 2, 3, 4, 5, 6, 0] (lv' := [(0, .ref v0), (1, .int t2), (2, .int t10), (3, .int t68), (4, .int t69), (5, .int t70), (6, .int t71)]) rfl ?_
                        exact J136 h79 t68 t69 t70 t71 t81 t69 t70 hf3
                      · rw [if_neg c83] at hf3
                        refine r_aload_n C dX12_laysAnswers_122 rfl ?_
                        obtain ⟨t84, e85, hf3⟩ := ob hf3
                        refine r_getR C fk_X12_60 rfl dX12_laysAnswers_123 e85 ?_
                        refine r_iload C dX12_laysAnswers_126 rfl ?_
                        refine r_iconst (v := 2) C dX12_laysAnswers_128 (by decide) ?_
                        refine r_iadd C dX12_laysAnswers_129 ?_
                        obtain ⟨t86, e87, hf3⟩ := ob hf3
                        refine r_ldI C dX12_laysAnswers_130 e87 ?_
                        refine r_goto (tgt := 136) C dX12_laysAnswers_131 (by decide) ?_
                        refine r_subk [1, 2, 3, 4, 5, 6, 0] (lv' := [(0, .ref v0), (1, .int t2), (2, .int t10), (3, .int t68), (4, .int t69), (5, .int t70), (6, .int t71)]) rfl ?_
                        exact J136 h79 t68 t69 t70 t71 t81 t69 t86 hf3
                    refine r_iload_n C dX12_laysAnswers_43 rfl ?_
                    refine r_aload_n C dX12_laysAnswers_44 rfl ?_
                    obtain ⟨t88, e89, hf3⟩ := ob hf3
                    refine r_getR C fk_X12_7 rfl dX12_laysAnswers_45 e89 ?_
                    refine r_iconst (v := 3) C dX12_laysAnswers_48 (by decide) ?_
                    obtain ⟨t90, e91, hf3⟩ := ob hf3
                    refine r_ldI C dX12_laysAnswers_49 e91 ?_
                    refine r_icmp_ge (tgt := 199) C dX12_laysAnswers_50 (by decide) (fun c92 => ?_) (fun c92 => ?_)
                    · rw [if_pos c92] at hf3
                      obtain rfl := so hf3
                      obtain rfl := so (show some h34 = some y32 from hk43)
                      refine r_subk [0, 1, 2] (lv' := [(0, .ref v0), (1, .int t2), (2, .int t10)]) rfl ?_
                      exact J199 h34 t10 hf2
                    · rw [if_neg c92] at hf3
                      refine r_iconst (v := 4) C dX12_laysAnswers_53 (by decide) ?_
                      refine r_sipush (v := 256) C dX12_laysAnswers_54 (by decide) ?_
                      refine r_bipush (v := 12) C dX12_laysAnswers_57 (by decide) ?_
                      refine r_iload_n C dX12_laysAnswers_59 rfl ?_
                      refine r_imul C dX12_laysAnswers_60 ?_
                      refine r_iload_n C dX12_laysAnswers_61 rfl ?_
                      refine r_iadd C dX12_laysAnswers_62 ?_
                      refine r_imul C dX12_laysAnswers_63 ?_
                      refine r_iload_n C dX12_laysAnswers_64 rfl ?_
                      refine r_iadd C dX12_laysAnswers_65 ?_
                      refine r_imul C dX12_laysAnswers_66 ?_
                      obtain ⟨t93, e94, hf3⟩ := ob hf3
                      refine r_istore (lv' := [(4, .int t93), (0, .ref v0), (1, .int t2), (2, .int t10), (3, .int t33)]) C dX12_laysAnswers_67 (by decide) e94 rfl ?_
                      refine r_aload_n C dX12_laysAnswers_69 rfl ?_
                      refine r_iload_n C dX12_laysAnswers_70 rfl ?_
                      obtain ⟨u96, e95, hf3⟩ := ob hf3
                      obtain ⟨t97, h98, e99, hf3⟩ := ob2 hf3
                      refine r_cV (ci := 12) (rest := []) (st2 := [.int t97]) C (s_X12_honestly e99) mk_X12_honestly rfl (ck_k e95) (by decide) im_X12_honestly sl_X12_honestly lk_X12_359 rfl rfl rfl dX12_laysAnswers_71 (Nat.le_of_ble_eq_true rfl) ⟨Nat.le_of_ble_eq_true rfl, Nat.le_of_ble_eq_true rfl⟩ ⟨Nat.le_of_ble_eq_true rfl, Nat.le_of_ble_eq_true rfl⟩ ?_
                      refine r_istore (lv' := [(5, .int t97), (4, .int t93), (0, .ref v0), (1, .int t2), (2, .int t10), (3, .int t33)]) C dX12_laysAnswers_74 (by decide) rfl rfl ?_
                      refine r_aload_n C dX12_laysAnswers_76 rfl ?_
                      refine r_iload_n C dX12_laysAnswers_77 rfl ?_
                      refine r_iconst (v := 5) C dX12_laysAnswers_78 (by decide) ?_
                      obtain ⟨u101, e100, hf3⟩ := ob hf3
                      obtain ⟨t102, e103, hf3⟩ := ob hf3
                      refine r_cV (ci := 12) (rest := []) (st2 := [.int t102]) C (s_X12_ofWitness e103) mk_X12_ofWitness rfl (ck_k e100) (by decide) im_X12_ofWitness sl_X12_ofWitness lk_X12_343 rfl rfl rfl dX12_laysAnswers_79 (Nat.le_of_ble_eq_true rfl) ⟨Nat.le_of_ble_eq_true rfl, Nat.le_of_ble_eq_true rfl⟩ ⟨Nat.le_of_ble_eq_true rfl, Nat.le_of_ble_eq_true rfl⟩ ?_
                      refine r_iload_n C dX12_laysAnswers_82 rfl ?_
                      refine r_ishr C dX12_laysAnswers_83 ?_
                      refine r_iconst (v := 1) C dX12_laysAnswers_84 (by decide) ?_
                      refine r_iand C dX12_laysAnswers_85 ?_
                      refine r_iconst (v := 1) C dX12_laysAnswers_86 (by decide) ?_
                      refine r_icmp_ne (tgt := 94) C dX12_laysAnswers_87 (by decide) (fun c104 => ?_) (fun c104 => ?_)
                      · rw [if_neg c104] at hf3
                        refine r_iconst (v := 0) C dX12_laysAnswers_94 (by decide) ?_
                        refine r_subk [2, 3, 4, 5, 1, 0] (lv' := [(0, .ref v0), (1, .int t2), (2, .int t10), (3, .int t33), (4, .int t93), (5, .int t97)]) rfl ?_
                        exact J95 h98 t33 t93 t97 (0 : Int32) hf3
                      · rw [if_pos c104] at hf3
                        refine r_iconst (v := 1) C dX12_laysAnswers_90 (by decide) ?_
                        refine r_goto (tgt := 95) C dX12_laysAnswers_91 (by decide) ?_
                        refine r_subk [2, 3, 4, 5, 1, 0] (lv' := [(0, .ref v0), (1, .int t2), (2, .int t10), (3, .int t33), (4, .int t93), (5, .int t97)]) rfl ?_
                        exact J95 h98 t33 t93 t97 (1 : Int32) hf3
                refine r_subk [1, 2, 3, 0] (lv' := [(0, .ref v0), (1, .int t2), (2, .int t10), (3, .int (0 : Int32))]) rfl ?_
                exact L43 wN (0 : Int32) h30 hl43
              · rw [if_pos c27] at hf2
                refine r_goto (tgt := 199) C dX12_laysAnswers_32 (by decide) ?_
                exact J199 h11 t10 hf2
        refine r_subk [1, 2, 0] (lv' := [(0, .ref v0), (1, .int t2), (2, .int (0 : Int32))]) rfl ?_
        exact L14 wN (0 : Int32) h3 hl14
  refine r_subk [1, 0] (lv' := [(0, .ref v0), (1, .int (0 : Int32))]) rfl ?_
  exact L2 wN (0 : Int32) h hl2
def f_X12_takes_b2 (v0 : Nat) (v1 : Int32) (h : aH) : Option ((Int32 × aH) ⊕ (aH)) := if (400 : Int32) ≤ v1 then some (.inr h) else (gR h 12 v0 0).bind fun t1 => (gR h 12 v0 0).bind fun t2 => (lI h t2 ((1600 : Int32) + v1)).bind fun t3 => (sI h t1 v1 t3).bind fun h4 => (some (v1 + (1 : Int32))).bind fun t5 => some (.inl (t5, h4))
def f_X12_takes_l2 (v0 : Nat) (v1 : Int32) (h : aH) : Option (aH) := whileL wN (fun q : Int32 × aH => f_X12_takes_b2 v0 q.1 q.2) (v1, h)
def f_X12_takes_b33 (v0 : Nat) (v1 : Int32) (h : aH) : Option ((Int32 × aH) ⊕ (aH)) := if (52 : Int32) ≤ v1 then some (.inr h) else (gR h 12 v0 1).bind fun t7 => (gR h 12 v0 1).bind fun t8 => (lJ h t8 ((208 : Int32) + v1)).bind fun t9 => (sJ h t7 v1 t9).bind fun h10 => (some (v1 + (1 : Int32))).bind fun t11 => some (.inl (t11, h10))
def f_X12_takes_l33 (v0 : Nat) (v1 : Int32) (h : aH) : Option (aH) := whileL wN (fun q : Int32 × aH => f_X12_takes_b33 v0 q.1 q.2) (v1, h)
def f_X12_takes_b63 (v0 : Nat) (v1 : Int32) (h : aH) : Option ((Int32 × aH) ⊕ (aH)) := if (44 : Int32) ≤ v1 then some (.inr h) else (gR h 12 v0 2).bind fun t13 => (gR h 12 v0 2).bind fun t14 => (lJ h t14 ((176 : Int32) + v1)).bind fun t15 => (sJ h t13 v1 t15).bind fun h16 => (some (v1 + (1 : Int32))).bind fun t17 => some (.inl (t17, h16))
def f_X12_takes_l63 (v0 : Nat) (v1 : Int32) (h : aH) : Option (aH) := whileL wN (fun q : Int32 × aH => f_X12_takes_b63 v0 q.1 q.2) (v1, h)
def f_X12_takes (h : aH) (v0 : Nat) : Option (aH) := (f_X12_takes_l2 v0 (0 : Int32) h).bind fun h6 => (f_X12_takes_l33 v0 (0 : Int32) h6).bind fun h12 => (f_X12_takes_l63 v0 (0 : Int32) h12).bind fun h18 => (ck h18 12 v0).bind fun _ => (f_X12_laysAnswers h18 v0).bind fun h19 => some h19
theorem s_X12_takes {h : aH} {v0 : Nat} {out : aH} (hf0 : f_X12_takes h v0 = some out) : EV 4 yX12_takes cX12_takes 2 none h [.ref v0] none out 0 0 := by
  refine EV.of (own := RX12) (lv0 := [(0, .ref v0)]) (by decide +kernel) rfl rfl (Nat.le_of_ble_eq_true rfl) ?_
  intro p l e s m args below meth c D cA B Hb C hin
  unfold f_X12_takes at hf0
  refine r_iconst (v := 0) C dX12_takes_0 (by decide) ?_
  refine r_istore_n (lv' := [(1, .int (0 : Int32)), (0, .ref v0)]) C dX12_takes_1 (by decide) rfl rfl ?_
  obtain ⟨y1, hl2, hf0⟩ := ob hf0
  have L2 : ∀ (n : Nat) (t2 : Int32) (h3 : aH), whileL n (fun q : Int32 × aH => f_X12_takes_b2 v0 q.1 q.2) (t2, h3) = some y1 → gW p l e (rmO 4 0 0) s m args below meth c (MQ below (eQ D cA B Hb out none) args s 0 0 (fun q => B ≤ q)) D cA B Hb 2 h3 2 [(0, .ref v0), (1, .int t2)] [] 0 0 := by
    intro n
    induction n with
    | zero => intro t2 h3 hz; cases hz
    | succ n ih2 =>
      intro t2 h3 hz
      obtain ⟨x2, hf1, hk2⟩ := wl hz
      replace hf1 : f_X12_takes_b2 v0 t2 h3 = some x2 := hf1
      unfold f_X12_takes_b2 at hf1
      refine r_iload_n C dX12_takes_2 rfl ?_
      refine r_sipush (v := 400) C dX12_takes_3 (by decide) ?_
      refine r_icmp_ge (tgt := 31) C dX12_takes_6 (by decide) (fun c4 => ?_) (fun c4 => ?_)
      · rw [if_pos c4] at hf1
        obtain rfl := so hf1
        obtain rfl := so (show some h3 = some y1 from hk2)
        refine r_iconst (v := 0) C dX12_takes_31 (by decide) ?_
        refine r_istore_n (lv' := [(1, .int (0 : Int32)), (0, .ref v0)]) C dX12_takes_32 (by decide) rfl rfl ?_
        obtain ⟨y5, hl33, hf0⟩ := ob hf0
        have L33 : ∀ (n : Nat) (t6 : Int32) (h7 : aH), whileL n (fun q : Int32 × aH => f_X12_takes_b33 v0 q.1 q.2) (t6, h7) = some y5 → gW p l e (rmO 4 0 0) s m args below meth c (MQ below (eQ D cA B Hb out none) args s 0 0 (fun q => B ≤ q)) D cA B Hb 2 h7 33 [(0, .ref v0), (1, .int t6)] [] 0 0 := by
          intro n
          induction n with
          | zero => intro t6 h7 hz; cases hz
          | succ n ih33 =>
            intro t6 h7 hz
            obtain ⟨x33, hf1, hk33⟩ := wl hz
            replace hf1 : f_X12_takes_b33 v0 t6 h7 = some x33 := hf1
            unfold f_X12_takes_b33 at hf1
            refine r_iload_n C dX12_takes_33 rfl ?_
            refine r_bipush (v := 52) C dX12_takes_34 (by decide) ?_
            refine r_icmp_ge (tgt := 61) C dX12_takes_36 (by decide) (fun c8 => ?_) (fun c8 => ?_)
            · rw [if_pos c8] at hf1
              obtain rfl := so hf1
              obtain rfl := so (show some h7 = some y5 from hk33)
              refine r_iconst (v := 0) C dX12_takes_61 (by decide) ?_
              refine r_istore_n (lv' := [(1, .int (0 : Int32)), (0, .ref v0)]) C dX12_takes_62 (by decide) rfl rfl ?_
              obtain ⟨y9, hl63, hf0⟩ := ob hf0
              have L63 : ∀ (n : Nat) (t10 : Int32) (h11 : aH), whileL n (fun q : Int32 × aH => f_X12_takes_b63 v0 q.1 q.2) (t10, h11) = some y9 → gW p l e (rmO 4 0 0) s m args below meth c (MQ below (eQ D cA B Hb out none) args s 0 0 (fun q => B ≤ q)) D cA B Hb 2 h11 63 [(0, .ref v0), (1, .int t10)] [] 0 0 := by
                intro n
                induction n with
                | zero => intro t10 h11 hz; cases hz
                | succ n ih63 =>
                  intro t10 h11 hz
                  obtain ⟨x63, hf1, hk63⟩ := wl hz
                  replace hf1 : f_X12_takes_b63 v0 t10 h11 = some x63 := hf1
                  unfold f_X12_takes_b63 at hf1
                  refine r_iload_n C dX12_takes_63 rfl ?_
                  refine r_bipush (v := 44) C dX12_takes_64 (by decide) ?_
                  refine r_icmp_ge (tgt := 91) C dX12_takes_66 (by decide) (fun c12 => ?_) (fun c12 => ?_)
                  · rw [if_pos c12] at hf1
                    obtain rfl := so hf1
                    obtain rfl := so (show some h11 = some y9 from hk63)
                    refine r_aload_n C dX12_takes_91 rfl ?_
                    obtain ⟨u14, e13, hf0⟩ := ob hf0
                    obtain ⟨h15, e16, hf0⟩ := ob hf0
                    refine r_cV (ci := 12) (rest := []) (st2 := []) C (s_X12_laysAnswers e16) mk_X12_laysAnswers rfl (ck_k e13) (by decide) im_X12_laysAnswers sl_X12_laysAnswers lk_X12_100 rfl rfl rfl dX12_takes_92 (Nat.le_of_ble_eq_true rfl) ⟨Nat.le_of_ble_eq_true rfl, Nat.le_of_ble_eq_true rfl⟩ ⟨Nat.le_of_ble_eq_true rfl, Nat.le_of_ble_eq_true rfl⟩ ?_
                    obtain rfl := so hf0
                    exact r_vret C dX12_takes_95
                  · rw [if_neg c12] at hf1
                    refine r_aload_n C dX12_takes_69 rfl ?_
                    obtain ⟨t17, e18, hf1⟩ := ob hf1
                    refine r_getR C fk_X12_17 rfl dX12_takes_70 e18 ?_
                    refine r_iload_n C dX12_takes_73 rfl ?_
                    refine r_aload_n C dX12_takes_74 rfl ?_
                    obtain ⟨t19, e20, hf1⟩ := ob hf1
                    refine r_getR C fk_X12_17 rfl dX12_takes_75 e20 ?_
                    refine r_sipush (v := 176) C dX12_takes_78 (by decide) ?_
                    refine r_iload_n C dX12_takes_81 rfl ?_
                    refine r_iadd C dX12_takes_82 ?_
                    obtain ⟨t21, e22, hf1⟩ := ob hf1
                    refine r_ldJ C dX12_takes_83 e22 ?_
                    obtain ⟨h23, e24, hf1⟩ := ob hf1
                    refine r_stJ C dX12_takes_84 e24 ?_
                    obtain ⟨t25, e26, hf1⟩ := ob hf1
                    refine r_iinc (lv' := [(1, .int t25), (0, .ref v0)]) C dX12_takes_85 rfl e26 (by decide) rfl ?_
                    refine r_goto (tgt := 63) C dX12_takes_88 (by decide) ?_
                    obtain rfl := so hf1
                    refine r_subk [1, 0] (lv' := [(0, .ref v0), (1, .int t25)]) rfl ?_
                    exact ih63 t25 h23 hk63
              refine r_subk [1, 0] (lv' := [(0, .ref v0), (1, .int (0 : Int32))]) rfl ?_
              exact L63 wN (0 : Int32) h7 hl63
            · rw [if_neg c8] at hf1
              refine r_aload_n C dX12_takes_39 rfl ?_
              obtain ⟨t27, e28, hf1⟩ := ob hf1
              refine r_getR C fk_X12_13 rfl dX12_takes_40 e28 ?_
              refine r_iload_n C dX12_takes_43 rfl ?_
              refine r_aload_n C dX12_takes_44 rfl ?_
              obtain ⟨t29, e30, hf1⟩ := ob hf1
              refine r_getR C fk_X12_13 rfl dX12_takes_45 e30 ?_
              refine r_sipush (v := 208) C dX12_takes_48 (by decide) ?_
              refine r_iload_n C dX12_takes_51 rfl ?_
              refine r_iadd C dX12_takes_52 ?_
              obtain ⟨t31, e32, hf1⟩ := ob hf1
              refine r_ldJ C dX12_takes_53 e32 ?_
              obtain ⟨h33, e34, hf1⟩ := ob hf1
              refine r_stJ C dX12_takes_54 e34 ?_
              obtain ⟨t35, e36, hf1⟩ := ob hf1
              refine r_iinc (lv' := [(1, .int t35), (0, .ref v0)]) C dX12_takes_55 rfl e36 (by decide) rfl ?_
              refine r_goto (tgt := 33) C dX12_takes_58 (by decide) ?_
              obtain rfl := so hf1
              refine r_subk [1, 0] (lv' := [(0, .ref v0), (1, .int t35)]) rfl ?_
              exact ih33 t35 h33 hk33
        refine r_subk [1, 0] (lv' := [(0, .ref v0), (1, .int (0 : Int32))]) rfl ?_
        exact L33 wN (0 : Int32) h3 hl33
      · rw [if_neg c4] at hf1
        refine r_aload_n C dX12_takes_9 rfl ?_
        obtain ⟨t37, e38, hf1⟩ := ob hf1
        refine r_getR C fk_X12_7 rfl dX12_takes_10 e38 ?_
        refine r_iload_n C dX12_takes_13 rfl ?_
        refine r_aload_n C dX12_takes_14 rfl ?_
        obtain ⟨t39, e40, hf1⟩ := ob hf1
        refine r_getR C fk_X12_7 rfl dX12_takes_15 e40 ?_
        refine r_sipush (v := 1600) C dX12_takes_18 (by decide) ?_
        refine r_iload_n C dX12_takes_21 rfl ?_
        refine r_iadd C dX12_takes_22 ?_
        obtain ⟨t41, e42, hf1⟩ := ob hf1
        refine r_ldI C dX12_takes_23 e42 ?_
        obtain ⟨h43, e44, hf1⟩ := ob hf1
        refine r_stI C dX12_takes_24 e44 ?_
        obtain ⟨t45, e46, hf1⟩ := ob hf1
        refine r_iinc (lv' := [(1, .int t45), (0, .ref v0)]) C dX12_takes_25 rfl e46 (by decide) rfl ?_
        refine r_goto (tgt := 2) C dX12_takes_28 (by decide) ?_
        obtain rfl := so hf1
        refine r_subk [1, 0] (lv' := [(0, .ref v0), (1, .int t45)]) rfl ?_
        exact ih2 t45 h43 hk2
  refine r_subk [1, 0] (lv' := [(0, .ref v0), (1, .int (0 : Int32))]) rfl ?_
  exact L2 wN (0 : Int32) h hl2
def f_X12_status (h : aH) (v0 : Nat) : Option (Int32) := (gI h 12 v0 3).bind fun t1 => some t1
theorem s_X12_status {h : aH} {v0 : Nat} {out : Int32} (hf0 : f_X12_status h v0 = some out) : EV 0 yX12_status cX12_status 1 (some .int) h [.ref v0] (some (.int out)) h 0 0 := by
  refine EV.of (own := RX12) (lv0 := [(0, .ref v0)]) (by decide +kernel) rfl rfl (Nat.le_of_ble_eq_true rfl) ?_
  intro p l e s m args below meth c D cA B Hb C hin
  unfold f_X12_status at hf0
  refine r_aload_n C dX12_status_0 rfl ?_
  obtain ⟨t1, e2, hf0⟩ := ob hf0
  refine r_getI C fk_X12_103 rfl dX12_status_1 e2 ?_
  obtain rfl := so hf0
  exact r_iret C dX12_status_4
def f_X12_top (h : aH) (v0 : Nat) : Option (Int64) := (gJ h 12 v0 4).bind fun t1 => some t1
theorem s_X12_top {h : aH} {v0 : Nat} {out : Int64} (hf0 : f_X12_top h v0 = some out) : EV 0 yX12_top cX12_top 1 (some .long) h [.ref v0] (some (.long out)) h 0 0 := by
  refine EV.of (own := RX12) (lv0 := [(0, .ref v0)]) (by decide +kernel) rfl rfl (Nat.le_of_ble_eq_true rfl) ?_
  intro p l e s m args below meth c D cA B Hb C hin
  unfold f_X12_top at hf0
  refine r_aload_n C dX12_top_0 rfl ?_
  obtain ⟨t1, e2, hf0⟩ := ob hf0
  refine r_getJ C fk_X12_106 rfl dX12_top_1 e2 ?_
  obtain rfl := so hf0
  exact r_lret C dX12_top_4
def f_X12_bottom (h : aH) (v0 : Nat) : Option (Int64) := (gJ h 12 v0 5).bind fun t1 => some t1
theorem s_X12_bottom {h : aH} {v0 : Nat} {out : Int64} (hf0 : f_X12_bottom h v0 = some out) : EV 0 yX12_bottom cX12_bottom 1 (some .long) h [.ref v0] (some (.long out)) h 0 0 := by
  refine EV.of (own := RX12) (lv0 := [(0, .ref v0)]) (by decide +kernel) rfl rfl (Nat.le_of_ble_eq_true rfl) ?_
  intro p l e s m args below meth c D cA B Hb C hin
  unfold f_X12_bottom at hf0
  refine r_aload_n C dX12_bottom_0 rfl ?_
  obtain ⟨t1, e2, hf0⟩ := ob hf0
  refine r_getJ C fk_X12_20 rfl dX12_bottom_1 e2 ?_
  obtain rfl := so hf0
  exact r_lret C dX12_bottom_4
def f_X12_is (h : aH) (v0 : Nat) (v1 : Int32) : Option (Int32 × aH) := (pI h 12 v0 3 v1).bind fun h1 => if v1 = 0 then some ((1 : Int32), h1) else some ((0 : Int32), h1)
theorem s_X12_is {h : aH} {v0 : Nat} {v1 : Int32} {out : Int32 × aH} (hf0 : f_X12_is h v0 v1 = some out) : EV 0 yX12_is cX12_is 2 (some .boolean) h [.ref v0, .int v1] (some (.int out.1)) out.2 0 0 := by
  refine EV.of (own := RX12) (lv0 := [(0, .ref v0), (1, .int v1)]) (by decide +kernel) rfl rfl (Nat.le_of_ble_eq_true rfl) ?_
  intro p l e s m args below meth c D cA B Hb C hin
  unfold f_X12_is at hf0
  refine r_aload_n C dX12_is_0 rfl ?_
  refine r_iload_n C dX12_is_1 rfl ?_
  obtain ⟨h1, e2, hf0⟩ := ob hf0
  refine r_putI C fk_X12_103 dX12_is_2 e2 ?_
  refine r_iload_n C dX12_is_5 rfl ?_
  refine r_ifne (tgt := 13) C dX12_is_6 (by decide) (fun c3 => ?_) (fun c3 => ?_)
  · rw [if_neg c3] at hf0
    refine r_iconst (v := 0) C dX12_is_13 (by decide) ?_
    obtain rfl := so hf0
    exact r_zret C dX12_is_14 (Or.inl rfl)
  · rw [if_pos c3] at hf0
    refine r_iconst (v := 1) C dX12_is_9 (by decide) ?_
    refine r_goto (tgt := 14) C dX12_is_10 (by decide) ?_
    obtain rfl := so hf0
    exact r_zret C dX12_is_14 (Or.inr rfl)
def f_X12_refuse (h : aH) (v0 : Nat) (v1 : Int32) : Option (Int32 × aH) := (pI h 12 v0 3 v1).bind fun h1 => some ((-1 : Int32), h1)
theorem s_X12_refuse {h : aH} {v0 : Nat} {v1 : Int32} {out : Int32 × aH} (hf0 : f_X12_refuse h v0 v1 = some out) : EV 0 yX12_refuse cX12_refuse 2 (some .int) h [.ref v0, .int v1] (some (.int out.1)) out.2 0 0 := by
  refine EV.of (own := RX12) (lv0 := [(0, .ref v0), (1, .int v1)]) (by decide +kernel) rfl rfl (Nat.le_of_ble_eq_true rfl) ?_
  intro p l e s m args below meth c D cA B Hb C hin
  unfold f_X12_refuse at hf0
  refine r_aload_n C dX12_refuse_0 rfl ?_
  refine r_iload_n C dX12_refuse_1 rfl ?_
  obtain ⟨h1, e2, hf0⟩ := ob hf0
  refine r_putI C fk_X12_103 dX12_refuse_2 e2 ?_
  refine r_iconst (v := -1) C dX12_refuse_5 (by decide) ?_
  obtain rfl := so hf0
  exact r_iret C dX12_refuse_6
def f_X12_gives (h : aH) (v0 : Nat) (v1 : Int32) : Option (Int32 × aH) := (pI h 12 v0 3 (0 : Int32)).bind fun h1 => some (v1, h1)
theorem s_X12_gives {h : aH} {v0 : Nat} {v1 : Int32} {out : Int32 × aH} (hf0 : f_X12_gives h v0 v1 = some out) : EV 0 yX12_gives cX12_gives 2 (some .int) h [.ref v0, .int v1] (some (.int out.1)) out.2 0 0 := by
  refine EV.of (own := RX12) (lv0 := [(0, .ref v0), (1, .int v1)]) (by decide +kernel) rfl rfl (Nat.le_of_ble_eq_true rfl) ?_
  intro p l e s m args below meth c D cA B Hb C hin
  unfold f_X12_gives at hf0
  refine r_aload_n C dX12_gives_0 rfl ?_
  refine r_iconst (v := 0) C dX12_gives_1 (by decide) ?_
  obtain ⟨h1, e2, hf0⟩ := ob hf0
  refine r_putI C fk_X12_103 dX12_gives_2 e2 ?_
  refine r_iload_n C dX12_gives_5 rfl ?_
  obtain rfl := so hf0
  exact r_iret C dX12_gives_6
def f_X12_tellsBy_b6 (h : aH) (v0 : Nat) (v1 : Int64) (v3 : Int64) (v5 : Int64) (v7 : Int64) : Option ((Int64 × Int64) ⊕ (Int64)) := if (lg_cmp v7 (0 : Int64)) = 0 then some (.inr v5) else (nzL v7).bind fun _ => (some (v5 - v5 / v7 * v7)).bind fun t1 => some (.inl (v7, t1))
def f_X12_tellsBy_l6 (h : aH) (v0 : Nat) (v1 : Int64) (v3 : Int64) (v5 : Int64) (v7 : Int64) : Option (Int64) := whileL wN (fun q : Int64 × Int64 => f_X12_tellsBy_b6 h v0 v1 v3 q.1 q.2) (v5, v7)
def f_X12_tellsBy (h : aH) (v0 : Nat) (v1 : Int64) (v3 : Int64) : Option (Int32 × aH) := (f_X12_tellsBy_l6 h v0 v1 v3 v1 v3).bind fun t2 => (nzL t2).bind fun _ => (pJ h 12 v0 4 (v1 / t2)).bind fun h3 => (nzL t2).bind fun _ => (pJ h3 12 v0 5 (v3 / t2)).bind fun h4 => (ck h4 12 v0).bind fun _ => bd2 (f_X12_is h4 v0 (0 : Int32)) fun t5 h6 => (rZ t5).bind fun t7 => some (t7, h6)
theorem s_X12_tellsBy {h : aH} {v0 : Nat} {v1 : Int64} {v3 : Int64} {out : Int32 × aH} (hf0 : f_X12_tellsBy h v0 v1 v3 = some out) : EV 1 yX12_tellsBy cX12_tellsBy 11 (some .boolean) h [.ref v0, .long v1, .long v3] (some (.int out.1)) out.2 0 0 := by
  refine EV.of (own := RX12) (lv0 := [(0, .ref v0), (1, .long v1), (3, .long v3)]) (by decide +kernel) rfl rfl (Nat.le_of_ble_eq_true rfl) ?_
  intro p l e s m args below meth c D cA B Hb C hin
  unfold f_X12_tellsBy at hf0
  refine r_lload_n C dX12_tellsBy_0 rfl ?_
  refine r_lstore (lv' := [(5, .long v1), (0, .ref v0), (1, .long v1), (3, .long v3)]) C dX12_tellsBy_1 (by decide) rfl rfl ?_
  refine r_lload_n C dX12_tellsBy_3 rfl ?_
  refine r_lstore (lv' := [(7, .long v3), (5, .long v1), (0, .ref v0), (1, .long v1), (3, .long v3)]) C dX12_tellsBy_4 (by decide) rfl rfl ?_
  obtain ⟨y1, hl6, hf0⟩ := ob hf0
  have L6 : ∀ (n : Nat) (t2 : Int64) (t3 : Int64), whileL n (fun q : Int64 × Int64 => f_X12_tellsBy_b6 h v0 v1 v3 q.1 q.2) (t2, t3) = some y1 → gW p l e (rmO 1 0 0) s m args below meth c (MQ below (eQ D cA B Hb out.2 (some (.int out.1))) args s 0 0 (fun q => B ≤ q)) D cA B Hb 11 h 6 [(0, .ref v0), (1, .long v1), (3, .long v3), (5, .long t2), (7, .long t3)] [] 0 0 := by
    intro n
    induction n with
    | zero => intro t2 t3 hz; cases hz
    | succ n ih6 =>
      intro t2 t3 hz
      obtain ⟨x6, hf1, hk6⟩ := wl hz
      replace hf1 : f_X12_tellsBy_b6 h v0 v1 v3 t2 t3 = some x6 := hf1
      unfold f_X12_tellsBy_b6 at hf1
      refine r_lload C dX12_tellsBy_6 rfl ?_
      refine r_lconst (v := 0) C dX12_tellsBy_8 (by decide) ?_
      refine r_lcmp C dX12_tellsBy_9 ?_
      refine r_ifeq (tgt := 31) C dX12_tellsBy_10 (by decide) (fun c4 => ?_) (fun c4 => ?_)
      · rw [if_pos c4] at hf1
        obtain rfl := so hf1
        obtain rfl := so (show some t2 = some y1 from hk6)
        refine r_aload_n C dX12_tellsBy_31 rfl ?_
        refine r_lload_n C dX12_tellsBy_32 rfl ?_
        refine r_lload C dX12_tellsBy_33 rfl ?_
        obtain ⟨u6, e5, hf0⟩ := ob hf0
        refine r_ldiv C dX12_tellsBy_35 (nzL_k e5) ?_
        obtain ⟨h7, e8, hf0⟩ := ob hf0
        refine r_putJ C fk_X12_106 dX12_tellsBy_36 e8 ?_
        refine r_aload_n C dX12_tellsBy_39 rfl ?_
        refine r_lload_n C dX12_tellsBy_40 rfl ?_
        refine r_lload C dX12_tellsBy_41 rfl ?_
        obtain ⟨u10, e9, hf0⟩ := ob hf0
        refine r_ldiv C dX12_tellsBy_43 (nzL_k e9) ?_
        obtain ⟨h11, e12, hf0⟩ := ob hf0
        refine r_putJ C fk_X12_20 dX12_tellsBy_44 e12 ?_
        refine r_aload_n C dX12_tellsBy_47 rfl ?_
        refine r_iconst (v := 0) C dX12_tellsBy_48 (by decide) ?_
        obtain ⟨u14, e13, hf0⟩ := ob hf0
        obtain ⟨t15, h16, e17, hf0⟩ := ob2 hf0
        refine r_cV (ci := 12) (rest := []) (st2 := [.int t15]) C (s_X12_is e17) mk_X12_is rfl (ck_k e13) (by decide) im_X12_is sl_X12_is lk_X12_109 rfl rfl rfl dX12_tellsBy_49 (Nat.le_of_ble_eq_true rfl) ⟨Nat.le_of_ble_eq_true rfl, Nat.le_of_ble_eq_true rfl⟩ ⟨Nat.le_of_ble_eq_true rfl, Nat.le_of_ble_eq_true rfl⟩ ?_
        obtain ⟨t18, e19, hf0⟩ := ob hf0
        obtain ⟨rfl, e19z⟩ := rZ_k e19
        obtain rfl := so hf0
        exact r_zret C dX12_tellsBy_52 e19z
      · rw [if_neg c4] at hf1
        refine r_lload C dX12_tellsBy_13 rfl ?_
        refine r_lload C dX12_tellsBy_15 rfl ?_
        obtain ⟨u21, e20, hf1⟩ := ob hf1
        refine r_lrem C dX12_tellsBy_17 (nzL_k e20) ?_
        obtain ⟨t22, e23, hf1⟩ := ob hf1
        refine r_lstore (lv' := [(9, .long t22), (0, .ref v0), (1, .long v1), (3, .long v3), (5, .long t2), (7, .long t3)]) C dX12_tellsBy_18 (by decide) e23 rfl ?_
        refine r_lload C dX12_tellsBy_20 rfl ?_
        refine r_lstore (lv' := [(5, .long t3), (9, .long t22), (0, .ref v0), (1, .long v1), (3, .long v3), (7, .long t3)]) C dX12_tellsBy_22 (by decide) rfl rfl ?_
        refine r_lload C dX12_tellsBy_24 rfl ?_
        refine r_lstore (lv' := [(7, .long t22), (5, .long t3), (9, .long t22), (0, .ref v0), (1, .long v1), (3, .long v3)]) C dX12_tellsBy_26 (by decide) rfl rfl ?_
        refine r_goto (tgt := 6) C dX12_tellsBy_28 (by decide) ?_
        obtain rfl := so hf1
        refine r_subk [3, 4, 5, 1, 0] (lv' := [(0, .ref v0), (1, .long v1), (3, .long v3), (5, .long t3), (7, .long t22)]) rfl ?_
        exact ih6 t3 t22 hk6
  refine r_subk [2, 3, 4, 1, 0] (lv' := [(0, .ref v0), (1, .long v1), (3, .long v3), (5, .long v1), (7, .long v3)]) rfl ?_
  exact L6 wN v1 v3 hl6
def f_X12_isTray (h : aH) (v0 : Int32) : Option (Int32) := if v0 < 0 then some (0 : Int32) else if (4 : Int32) ≤ v0 then some (0 : Int32) else some (1 : Int32)
theorem s_X12_isTray {h : aH} {v0 : Int32} {out : Int32} (hf0 : f_X12_isTray h v0 = some out) : EV 0 yX12_isTray cX12_isTray 1 (some .boolean) h [.int v0] (some (.int out)) h 0 0 := by
  refine EV.of (own := RX12) (lv0 := [(0, .int v0)]) (by decide +kernel) rfl rfl (Nat.le_of_ble_eq_true rfl) ?_
  intro p l e s m args below meth c D cA B Hb C hin
  unfold f_X12_isTray at hf0
  refine r_iload_n C dX12_isTray_0 rfl ?_
  refine r_iflt (tgt := 13) C dX12_isTray_1 (by decide) (fun c1 => ?_) (fun c1 => ?_)
  · rw [if_pos c1] at hf0
    refine r_iconst (v := 0) C dX12_isTray_13 (by decide) ?_
    obtain rfl := so hf0
    exact r_zret C dX12_isTray_14 (Or.inl rfl)
  · rw [if_neg c1] at hf0
    refine r_iload_n C dX12_isTray_4 rfl ?_
    refine r_iconst (v := 4) C dX12_isTray_5 (by decide) ?_
    refine r_icmp_ge (tgt := 13) C dX12_isTray_6 (by decide) (fun c2 => ?_) (fun c2 => ?_)
    · rw [if_pos c2] at hf0
      refine r_iconst (v := 0) C dX12_isTray_13 (by decide) ?_
      obtain rfl := so hf0
      exact r_zret C dX12_isTray_14 (Or.inl rfl)
    · rw [if_neg c2] at hf0
      refine r_iconst (v := 1) C dX12_isTray_9 (by decide) ?_
      refine r_goto (tgt := 14) C dX12_isTray_10 (by decide) ?_
      obtain rfl := so hf0
      exact r_zret C dX12_isTray_14 (Or.inr rfl)
def f_X12_cut (h : aH) (v0 : Int64) (v2 : Int32) : Option (Int64) := if v2 = 0 then some (Int32.toInt64 ((Int32.toInt8 (Int64.toInt32 v0)).toInt32)) else if v2 = (1 : Int32) then some (Int32.toInt64 ((Int32.toInt16 (Int64.toInt32 v0)).toInt32)) else if v2 = (2 : Int32) then some (Int32.toInt64 (Int64.toInt32 v0)) else some v0
theorem s_X12_cut {h : aH} {v0 : Int64} {v2 : Int32} {out : Int64} (hf0 : f_X12_cut h v0 v2 = some out) : EV 0 yX12_cut cX12_cut 3 (some .long) h [.long v0, .int v2] (some (.long out)) h 0 0 := by
  refine EV.of (own := RX12) (lv0 := [(0, .long v0), (2, .int v2)]) (by decide +kernel) rfl rfl (Nat.le_of_ble_eq_true rfl) ?_
  intro p l e s m args below meth c D cA B Hb C hin
  unfold f_X12_cut at hf0
  refine r_iload_n C dX12_cut_0 rfl ?_
  refine r_ifne (tgt := 11) C dX12_cut_1 (by decide) (fun c1 => ?_) (fun c1 => ?_)
  · rw [if_neg c1] at hf0
    refine r_iload_n C dX12_cut_11 rfl ?_
    refine r_iconst (v := 1) C dX12_cut_12 (by decide) ?_
    refine r_icmp_ne (tgt := 23) C dX12_cut_13 (by decide) (fun c2 => ?_) (fun c2 => ?_)
    · rw [if_neg c2] at hf0
      refine r_iload_n C dX12_cut_23 rfl ?_
      refine r_iconst (v := 2) C dX12_cut_24 (by decide) ?_
      refine r_icmp_ne (tgt := 34) C dX12_cut_25 (by decide) (fun c3 => ?_) (fun c3 => ?_)
      · rw [if_neg c3] at hf0
        refine r_lload_n C dX12_cut_34 rfl ?_
        obtain rfl := so hf0
        exact r_lret C dX12_cut_35
      · rw [if_pos c3] at hf0
        refine r_lload_n C dX12_cut_28 rfl ?_
        refine r_l2i C dX12_cut_29 ?_
        refine r_i2l C dX12_cut_30 ?_
        refine r_goto (tgt := 35) C dX12_cut_31 (by decide) ?_
        obtain rfl := so hf0
        exact r_lret C dX12_cut_35
    · rw [if_pos c2] at hf0
      refine r_lload_n C dX12_cut_16 rfl ?_
      refine r_l2i C dX12_cut_17 ?_
      refine r_i2s C dX12_cut_18 ?_
      refine r_i2l C dX12_cut_19 ?_
      refine r_goto (tgt := 35) C dX12_cut_20 (by decide) ?_
      obtain rfl := so hf0
      exact r_lret C dX12_cut_35
  · rw [if_pos c1] at hf0
    refine r_lload_n C dX12_cut_4 rfl ?_
    refine r_l2i C dX12_cut_5 ?_
    refine r_i2b C dX12_cut_6 ?_
    refine r_i2l C dX12_cut_7 ?_
    refine r_goto (tgt := 35) C dX12_cut_8 (by decide) ?_
    obtain rfl := so hf0
    exact r_lret C dX12_cut_35
def f_X12_tray_j26 (h : aH) (v0 : Nat) : Option (Int32 × aH) := (ck h 12 v0).bind fun _ => bd2 (f_X12_is h v0 (1 : Int32)) fun t1 h2 => (rZ t1).bind fun t3 => some (t3, h2)
def f_X12_tray_b49 (v0 : Nat) (v1 : Int32) (v3 : Int32) (v4 : Int32) (h : aH) : Option ((Int32 × aH) ⊕ (aH)) := if v3 ≤ v4 then some (.inr h) else (gR h 12 v0 8).bind fun t9 => (sJ h t9 (((60 : Int32) * v1) + v4) (0 : Int64)).bind fun h10 => (some (v4 + (1 : Int32))).bind fun t11 => some (.inl (t11, h10))
def f_X12_tray_l49 (v0 : Nat) (v1 : Int32) (v3 : Int32) (v4 : Int32) (h : aH) : Option (aH) := whileL wN (fun q : Int32 × aH => f_X12_tray_b49 v0 v1 v3 q.1 q.2) (v4, h)
def f_X12_tray (h : aH) (v0 : Nat) (v1 : Int32) (v2 : Int32) (v3 : Int32) : Option (Int32 × aH) := (f_X12_isTray h v1).bind fun t4 => if t4 = 0 then f_X12_tray_j26 h v0 else if v2 < 0 then f_X12_tray_j26 h v0 else if (3 : Int32) < v2 then f_X12_tray_j26 h v0 else if v3 < 0 then f_X12_tray_j26 h v0 else if v3 ≤ (60 : Int32) then (gR h 12 v0 6).bind fun t5 => (sI h t5 v1 v2).bind fun h6 => (gR h6 12 v0 7).bind fun t7 => (sI h6 t7 v1 v3).bind fun h8 => (f_X12_tray_l49 v0 v1 v3 (0 : Int32) h8).bind fun h12 => (ck h12 12 v0).bind fun _ => bd2 (f_X12_is h12 v0 (0 : Int32)) fun t13 h14 => (rZ t13).bind fun t15 => some (t15, h14) else f_X12_tray_j26 h v0
theorem s_X12_tray {h : aH} {v0 : Nat} {v1 : Int32} {v2 : Int32} {v3 : Int32} {out : Int32 × aH} (hf0 : f_X12_tray h v0 v1 v2 v3 = some out) : EV 1 yX12_tray cX12_tray 5 (some .boolean) h [.ref v0, .int v1, .int v2, .int v3] (some (.int out.1)) out.2 0 0 := by
  refine EV.of (own := RX12) (lv0 := [(0, .ref v0), (1, .int v1), (2, .int v2), (3, .int v3)]) (by decide +kernel) rfl rfl (Nat.le_of_ble_eq_true rfl) ?_
  intro p l e s m args below meth c D cA B Hb C hin
  unfold f_X12_tray at hf0
  have J26 : ∀ (h1 : aH) (t2 : Nat), f_X12_tray_j26 h1 t2 = some out → gW p l e (rmO 1 0 0) s m args below meth c (MQ below (eQ D cA B Hb out.2 (some (.int out.1))) args s 0 0 (fun q => B ≤ q)) D cA B Hb 5 h1 26 [(0, .ref t2)] [] 0 0 := by
    intro h1 t2 hf0
    unfold f_X12_tray_j26 at hf0
    refine r_aload_n C dX12_tray_26 rfl ?_
    refine r_iconst (v := 1) C dX12_tray_27 (by decide) ?_
    obtain ⟨u4, e3, hf0⟩ := ob hf0
    obtain ⟨t5, h6, e7, hf0⟩ := ob2 hf0
    refine r_cV (ci := 12) (rest := []) (st2 := [.int t5]) C (s_X12_is e7) mk_X12_is rfl (ck_k e3) (by decide) im_X12_is sl_X12_is lk_X12_109 rfl rfl rfl dX12_tray_28 (Nat.le_of_ble_eq_true rfl) ⟨Nat.le_of_ble_eq_true rfl, Nat.le_of_ble_eq_true rfl⟩ ⟨Nat.le_of_ble_eq_true rfl, Nat.le_of_ble_eq_true rfl⟩ ?_
    obtain ⟨t8, e9, hf0⟩ := ob hf0
    obtain ⟨rfl, e9z⟩ := rZ_k e9
    obtain rfl := so hf0
    exact r_zret C dX12_tray_31 e9z
  refine r_iload_n C dX12_tray_0 rfl ?_
  obtain ⟨t10, e11, hf0⟩ := ob hf0
  refine r_cS (rest := []) (st2 := [.int t10]) C (s_X12_isTray e11) mk_X12_isTray sm_X12_isTray lk_X12_113 rfl rfl rfl dX12_tray_1 (Nat.le_of_ble_eq_true rfl) ⟨Nat.le_of_ble_eq_true rfl, Nat.le_of_ble_eq_true rfl⟩ ⟨Nat.le_of_ble_eq_true rfl, Nat.le_of_ble_eq_true rfl⟩ ?_
  refine r_ifeq (tgt := 26) C dX12_tray_4 (by decide) (fun c12 => ?_) (fun c12 => ?_)
  · rw [if_pos c12] at hf0
    refine r_subk [0] (lv' := [(0, .ref v0)]) rfl ?_
    exact J26 h v0 hf0
  · rw [if_neg c12] at hf0
    refine r_iload_n C dX12_tray_7 rfl ?_
    refine r_iflt (tgt := 26) C dX12_tray_8 (by decide) (fun c13 => ?_) (fun c13 => ?_)
    · rw [if_pos c13] at hf0
      refine r_subk [0] (lv' := [(0, .ref v0)]) rfl ?_
      exact J26 h v0 hf0
    · rw [if_neg c13] at hf0
      refine r_iload_n C dX12_tray_11 rfl ?_
      refine r_iconst (v := 3) C dX12_tray_12 (by decide) ?_
      refine r_icmp_gt (tgt := 26) C dX12_tray_13 (by decide) (fun c14 => ?_) (fun c14 => ?_)
      · rw [if_pos c14] at hf0
        refine r_subk [0] (lv' := [(0, .ref v0)]) rfl ?_
        exact J26 h v0 hf0
      · rw [if_neg c14] at hf0
        refine r_iload_n C dX12_tray_16 rfl ?_
        refine r_iflt (tgt := 26) C dX12_tray_17 (by decide) (fun c15 => ?_) (fun c15 => ?_)
        · rw [if_pos c15] at hf0
          refine r_subk [0] (lv' := [(0, .ref v0)]) rfl ?_
          exact J26 h v0 hf0
        · rw [if_neg c15] at hf0
          refine r_iload_n C dX12_tray_20 rfl ?_
          refine r_bipush (v := 60) C dX12_tray_21 (by decide) ?_
          refine r_icmp_le (tgt := 32) C dX12_tray_23 (by decide) (fun c16 => ?_) (fun c16 => ?_)
          · rw [if_pos c16] at hf0
            refine r_aload_n C dX12_tray_32 rfl ?_
            obtain ⟨t17, e18, hf0⟩ := ob hf0
            refine r_getR C fk_X12_24 rfl dX12_tray_33 e18 ?_
            refine r_iload_n C dX12_tray_36 rfl ?_
            refine r_iload_n C dX12_tray_37 rfl ?_
            obtain ⟨h19, e20, hf0⟩ := ob hf0
            refine r_stI C dX12_tray_38 e20 ?_
            refine r_aload_n C dX12_tray_39 rfl ?_
            obtain ⟨t21, e22, hf0⟩ := ob hf0
            refine r_getR C fk_X12_27 rfl dX12_tray_40 e22 ?_
            refine r_iload_n C dX12_tray_43 rfl ?_
            refine r_iload_n C dX12_tray_44 rfl ?_
            obtain ⟨h23, e24, hf0⟩ := ob hf0
            refine r_stI C dX12_tray_45 e24 ?_
            refine r_iconst (v := 0) C dX12_tray_46 (by decide) ?_
            refine r_istore (lv' := [(4, .int (0 : Int32)), (0, .ref v0), (1, .int v1), (2, .int v2), (3, .int v3)]) C dX12_tray_47 (by decide) rfl rfl ?_
            obtain ⟨y25, hl49, hf0⟩ := ob hf0
            have L49 : ∀ (n : Nat) (t26 : Int32) (h27 : aH), whileL n (fun q : Int32 × aH => f_X12_tray_b49 v0 v1 v3 q.1 q.2) (t26, h27) = some y25 → gW p l e (rmO 1 0 0) s m args below meth c (MQ below (eQ D cA B Hb out.2 (some (.int out.1))) args s 0 0 (fun q => B ≤ q)) D cA B Hb 5 h27 49 [(0, .ref v0), (1, .int v1), (3, .int v3), (4, .int t26)] [] 0 0 := by
              intro n
              induction n with
              | zero => intro t26 h27 hz; cases hz
              | succ n ih49 =>
                intro t26 h27 hz
                obtain ⟨x49, hf1, hk49⟩ := wl hz
                replace hf1 : f_X12_tray_b49 v0 v1 v3 t26 h27 = some x49 := hf1
                unfold f_X12_tray_b49 at hf1
                refine r_iload C dX12_tray_49 rfl ?_
                refine r_iload_n C dX12_tray_51 rfl ?_
                refine r_icmp_ge (tgt := 74) C dX12_tray_52 (by decide) (fun c28 => ?_) (fun c28 => ?_)
                · rw [if_pos c28] at hf1
                  obtain rfl := so hf1
                  obtain rfl := so (show some h27 = some y25 from hk49)
                  refine r_aload_n C dX12_tray_74 rfl ?_
                  refine r_iconst (v := 0) C dX12_tray_75 (by decide) ?_
                  obtain ⟨u30, e29, hf0⟩ := ob hf0
                  obtain ⟨t31, h32, e33, hf0⟩ := ob2 hf0
                  refine r_cV (ci := 12) (rest := []) (st2 := [.int t31]) C (s_X12_is e33) mk_X12_is rfl (ck_k e29) (by decide) im_X12_is sl_X12_is lk_X12_109 rfl rfl rfl dX12_tray_76 (Nat.le_of_ble_eq_true rfl) ⟨Nat.le_of_ble_eq_true rfl, Nat.le_of_ble_eq_true rfl⟩ ⟨Nat.le_of_ble_eq_true rfl, Nat.le_of_ble_eq_true rfl⟩ ?_
                  obtain ⟨t34, e35, hf0⟩ := ob hf0
                  obtain ⟨rfl, e35z⟩ := rZ_k e35
                  obtain rfl := so hf0
                  exact r_zret C dX12_tray_79 e35z
                · rw [if_neg c28] at hf1
                  refine r_aload_n C dX12_tray_55 rfl ?_
                  obtain ⟨t36, e37, hf1⟩ := ob hf1
                  refine r_getR C fk_X12_30 rfl dX12_tray_56 e37 ?_
                  refine r_bipush (v := 60) C dX12_tray_59 (by decide) ?_
                  refine r_iload_n C dX12_tray_61 rfl ?_
                  refine r_imul C dX12_tray_62 ?_
                  refine r_iload C dX12_tray_63 rfl ?_
                  refine r_iadd C dX12_tray_65 ?_
                  refine r_lconst (v := 0) C dX12_tray_66 (by decide) ?_
                  obtain ⟨h38, e39, hf1⟩ := ob hf1
                  refine r_stJ C dX12_tray_67 e39 ?_
                  obtain ⟨t40, e41, hf1⟩ := ob hf1
                  refine r_iinc (lv' := [(4, .int t40), (0, .ref v0), (1, .int v1), (3, .int v3)]) C dX12_tray_68 rfl e41 (by decide) rfl ?_
                  refine r_goto (tgt := 49) C dX12_tray_71 (by decide) ?_
                  obtain rfl := so hf1
                  refine r_subk [1, 2, 3, 0] (lv' := [(0, .ref v0), (1, .int v1), (3, .int v3), (4, .int t40)]) rfl ?_
                  exact ih49 t40 h38 hk49
            refine r_subk [1, 2, 4, 0] (lv' := [(0, .ref v0), (1, .int v1), (3, .int v3), (4, .int (0 : Int32))]) rfl ?_
            exact L49 wN (0 : Int32) h23 hl49
          · rw [if_neg c16] at hf0
            refine r_subk [0] (lv' := [(0, .ref v0)]) rfl ?_
            exact J26 h v0 hf0
def f_X12_wrongPlace (h : aH) (v0 : Nat) (v1 : Int32) (v2 : Int32) : Option (Int32) := (f_X12_isTray h v1).bind fun t1 => if t1 = 0 then some (1 : Int32) else (gR h 12 v0 7).bind fun t2 => (lI h t2 v1).bind fun t3 => if t3 = (-1 : Int32) then some (2 : Int32) else if v2 < 0 then some (3 : Int32) else (gR h 12 v0 7).bind fun t4 => (lI h t4 v1).bind fun t5 => if v2 < t5 then some (0 : Int32) else some (3 : Int32)
theorem s_X12_wrongPlace {h : aH} {v0 : Nat} {v1 : Int32} {v2 : Int32} {out : Int32} (hf0 : f_X12_wrongPlace h v0 v1 v2 = some out) : EV 1 yX12_wrongPlace cX12_wrongPlace 3 (some .int) h [.ref v0, .int v1, .int v2] (some (.int out)) h 0 0 := by
  refine EV.of (own := RX12) (lv0 := [(0, .ref v0), (1, .int v1), (2, .int v2)]) (by decide +kernel) rfl rfl (Nat.le_of_ble_eq_true rfl) ?_
  intro p l e s m args below meth c D cA B Hb C hin
  unfold f_X12_wrongPlace at hf0
  refine r_iload_n C dX12_wrongPlace_0 rfl ?_
  obtain ⟨t1, e2, hf0⟩ := ob hf0
  refine r_cS (rest := []) (st2 := [.int t1]) C (s_X12_isTray e2) mk_X12_isTray sm_X12_isTray lk_X12_113 rfl rfl rfl dX12_wrongPlace_1 (Nat.le_of_ble_eq_true rfl) ⟨Nat.le_of_ble_eq_true rfl, Nat.le_of_ble_eq_true rfl⟩ ⟨Nat.le_of_ble_eq_true rfl, Nat.le_of_ble_eq_true rfl⟩ ?_
  refine r_ifne (tgt := 11) C dX12_wrongPlace_4 (by decide) (fun c3 => ?_) (fun c3 => ?_)
  · rw [if_neg c3] at hf0
    refine r_aload_n C dX12_wrongPlace_11 rfl ?_
    obtain ⟨t4, e5, hf0⟩ := ob hf0
    refine r_getR C fk_X12_27 rfl dX12_wrongPlace_12 e5 ?_
    refine r_iload_n C dX12_wrongPlace_15 rfl ?_
    obtain ⟨t6, e7, hf0⟩ := ob hf0
    refine r_ldI C dX12_wrongPlace_16 e7 ?_
    refine r_iconst (v := -1) C dX12_wrongPlace_17 (by decide) ?_
    refine r_icmp_ne (tgt := 25) C dX12_wrongPlace_18 (by decide) (fun c8 => ?_) (fun c8 => ?_)
    · rw [if_neg c8] at hf0
      refine r_iload_n C dX12_wrongPlace_25 rfl ?_
      refine r_iflt (tgt := 39) C dX12_wrongPlace_26 (by decide) (fun c9 => ?_) (fun c9 => ?_)
      · rw [if_pos c9] at hf0
        refine r_iconst (v := 3) C dX12_wrongPlace_39 (by decide) ?_
        refine r_goto (tgt := 44) C dX12_wrongPlace_40 (by decide) ?_
        obtain rfl := so hf0
        exact r_iret C dX12_wrongPlace_44
      · rw [if_neg c9] at hf0
        refine r_iload_n C dX12_wrongPlace_29 rfl ?_
        refine r_aload_n C dX12_wrongPlace_30 rfl ?_
        obtain ⟨t10, e11, hf0⟩ := ob hf0
        refine r_getR C fk_X12_27 rfl dX12_wrongPlace_31 e11 ?_
        refine r_iload_n C dX12_wrongPlace_34 rfl ?_
        obtain ⟨t12, e13, hf0⟩ := ob hf0
        refine r_ldI C dX12_wrongPlace_35 e13 ?_
        refine r_icmp_lt (tgt := 43) C dX12_wrongPlace_36 (by decide) (fun c14 => ?_) (fun c14 => ?_)
        · rw [if_pos c14] at hf0
          refine r_iconst (v := 0) C dX12_wrongPlace_43 (by decide) ?_
          obtain rfl := so hf0
          exact r_iret C dX12_wrongPlace_44
        · rw [if_neg c14] at hf0
          refine r_iconst (v := 3) C dX12_wrongPlace_39 (by decide) ?_
          refine r_goto (tgt := 44) C dX12_wrongPlace_40 (by decide) ?_
          obtain rfl := so hf0
          exact r_iret C dX12_wrongPlace_44
    · rw [if_pos c8] at hf0
      refine r_iconst (v := 2) C dX12_wrongPlace_21 (by decide) ?_
      refine r_goto (tgt := 44) C dX12_wrongPlace_22 (by decide) ?_
      obtain rfl := so hf0
      exact r_iret C dX12_wrongPlace_44
  · rw [if_pos c3] at hf0
    refine r_iconst (v := 1) C dX12_wrongPlace_7 (by decide) ?_
    refine r_goto (tgt := 44) C dX12_wrongPlace_8 (by decide) ?_
    obtain rfl := so hf0
    exact r_iret C dX12_wrongPlace_44
def f_X12_write_j34 (h : aH) (v0 : Nat) (v5 : Int32) : Option (Int32 × aH) := (ck h 12 v0).bind fun _ => bd2 (f_X12_is h v0 v5) fun t1 h2 => (rZ t1).bind fun t3 => some (t3, h2)
def f_X12_write (h : aH) (v0 : Nat) (v1 : Int32) (v2 : Int32) (v3 : Int64) : Option (Int32 × aH) := (ck h 12 v0).bind fun _ => (f_X12_wrongPlace h v0 v1 v2).bind fun t4 => if t4 = 0 then (gR h 12 v0 8).bind fun t5 => (gR h 12 v0 6).bind fun t6 => (lI h t6 v1).bind fun t7 => (f_X12_cut h v3 t7).bind fun t8 => (sJ h t5 (((60 : Int32) * v1) + v2) t8).bind fun h9 => f_X12_write_j34 h9 v0 t4 else f_X12_write_j34 h v0 t4
theorem s_X12_write {h : aH} {v0 : Nat} {v1 : Int32} {v2 : Int32} {v3 : Int64} {out : Int32 × aH} (hf0 : f_X12_write h v0 v1 v2 v3 = some out) : EV 2 yX12_write cX12_write 6 (some .boolean) h [.ref v0, .int v1, .int v2, .long v3] (some (.int out.1)) out.2 0 0 := by
  refine EV.of (own := RX12) (lv0 := [(0, .ref v0), (1, .int v1), (2, .int v2), (3, .long v3)]) (by decide +kernel) rfl rfl (Nat.le_of_ble_eq_true rfl) ?_
  intro p l e s m args below meth c D cA B Hb C hin
  unfold f_X12_write at hf0
  have J34 : ∀ (h1 : aH) (t2 : Nat) (t3 : Int32), f_X12_write_j34 h1 t2 t3 = some out → gW p l e (rmO 2 0 0) s m args below meth c (MQ below (eQ D cA B Hb out.2 (some (.int out.1))) args s 0 0 (fun q => B ≤ q)) D cA B Hb 6 h1 34 [(0, .ref t2), (5, .int t3)] [] 0 0 := by
    intro h1 t2 t3 hf0
    unfold f_X12_write_j34 at hf0
    refine r_aload_n C dX12_write_34 rfl ?_
    refine r_iload C dX12_write_35 rfl ?_
    obtain ⟨u5, e4, hf0⟩ := ob hf0
    obtain ⟨t6, h7, e8, hf0⟩ := ob2 hf0
    refine r_cV (ci := 12) (rest := []) (st2 := [.int t6]) C (s_X12_is e8) mk_X12_is rfl (ck_k e4) (by decide) im_X12_is sl_X12_is lk_X12_109 rfl rfl rfl dX12_write_37 (Nat.le_of_ble_eq_true rfl) ⟨Nat.le_of_ble_eq_true rfl, Nat.le_of_ble_eq_true rfl⟩ ⟨Nat.le_of_ble_eq_true rfl, Nat.le_of_ble_eq_true rfl⟩ ?_
    obtain ⟨t9, e10, hf0⟩ := ob hf0
    obtain ⟨rfl, e10z⟩ := rZ_k e10
    obtain rfl := so hf0
    exact r_zret C dX12_write_40 e10z
  refine r_aload_n C dX12_write_0 rfl ?_
  refine r_iload_n C dX12_write_1 rfl ?_
  refine r_iload_n C dX12_write_2 rfl ?_
  obtain ⟨u12, e11, hf0⟩ := ob hf0
  obtain ⟨t13, e14, hf0⟩ := ob hf0
  refine r_cV (ci := 12) (rest := []) (st2 := [.int t13]) C (s_X12_wrongPlace e14) mk_X12_wrongPlace rfl (ck_k e11) (by decide) im_X12_wrongPlace sl_X12_wrongPlace lk_X12_116 rfl rfl rfl dX12_write_3 (Nat.le_of_ble_eq_true rfl) ⟨Nat.le_of_ble_eq_true rfl, Nat.le_of_ble_eq_true rfl⟩ ⟨Nat.le_of_ble_eq_true rfl, Nat.le_of_ble_eq_true rfl⟩ ?_
  refine r_istore (lv' := [(5, .int t13), (0, .ref v0), (1, .int v1), (2, .int v2), (3, .long v3)]) C dX12_write_6 (by decide) rfl rfl ?_
  refine r_iload C dX12_write_8 rfl ?_
  refine r_ifne (tgt := 34) C dX12_write_10 (by decide) (fun c15 => ?_) (fun c15 => ?_)
  · rw [if_neg c15] at hf0
    refine r_subk [1, 0] (lv' := [(0, .ref v0), (5, .int t13)]) rfl ?_
    exact J34 h v0 t13 hf0
  · rw [if_pos c15] at hf0
    refine r_aload_n C dX12_write_13 rfl ?_
    obtain ⟨t16, e17, hf0⟩ := ob hf0
    refine r_getR C fk_X12_30 rfl dX12_write_14 e17 ?_
    refine r_bipush (v := 60) C dX12_write_17 (by decide) ?_
    refine r_iload_n C dX12_write_19 rfl ?_
    refine r_imul C dX12_write_20 ?_
    refine r_iload_n C dX12_write_21 rfl ?_
    refine r_iadd C dX12_write_22 ?_
    refine r_lload_n C dX12_write_23 rfl ?_
    refine r_aload_n C dX12_write_24 rfl ?_
    obtain ⟨t18, e19, hf0⟩ := ob hf0
    refine r_getR C fk_X12_24 rfl dX12_write_25 e19 ?_
    refine r_iload_n C dX12_write_28 rfl ?_
    obtain ⟨t20, e21, hf0⟩ := ob hf0
    refine r_ldI C dX12_write_29 e21 ?_
    obtain ⟨t22, e23, hf0⟩ := ob hf0
    refine r_cS (rest := [.int (((60 : Int32) * v1) + v2), .ref t16]) (st2 := [.long t22, .int (((60 : Int32) * v1) + v2), .ref t16]) C (s_X12_cut e23) mk_X12_cut sm_X12_cut lk_X12_120 rfl rfl rfl dX12_write_30 (Nat.le_of_ble_eq_true rfl) ⟨Nat.le_of_ble_eq_true rfl, Nat.le_of_ble_eq_true rfl⟩ ⟨Nat.le_of_ble_eq_true rfl, Nat.le_of_ble_eq_true rfl⟩ ?_
    obtain ⟨h24, e25, hf0⟩ := ob hf0
    refine r_stJ C dX12_write_33 e25 ?_
    refine r_subk [1, 0] (lv' := [(0, .ref v0), (5, .int t13)]) rfl ?_
    exact J34 h24 v0 t13 hf0
def f_X12_read (h : aH) (v0 : Nat) (v1 : Int32) (v2 : Int32) : Option (Int64 × aH) := (ck h 12 v0).bind fun _ => (f_X12_wrongPlace h v0 v1 v2).bind fun t1 => (pI h 12 v0 3 t1).bind fun h2 => (gI h2 12 v0 3).bind fun t3 => if t3 ≤ 0 then (gR h2 12 v0 8).bind fun t4 => (lJ h2 t4 (((60 : Int32) * v1) + v2)).bind fun t5 => some (t5, h2) else some ((-1 : Int64), h2)
theorem s_X12_read {h : aH} {v0 : Nat} {v1 : Int32} {v2 : Int32} {out : Int64 × aH} (hf0 : f_X12_read h v0 v1 v2 = some out) : EV 2 yX12_read cX12_read 3 (some .long) h [.ref v0, .int v1, .int v2] (some (.long out.1)) out.2 0 0 := by
  refine EV.of (own := RX12) (lv0 := [(0, .ref v0), (1, .int v1), (2, .int v2)]) (by decide +kernel) rfl rfl (Nat.le_of_ble_eq_true rfl) ?_
  intro p l e s m args below meth c D cA B Hb C hin
  unfold f_X12_read at hf0
  refine r_aload_n C dX12_read_0 rfl ?_
  refine r_aload_n C dX12_read_1 rfl ?_
  refine r_iload_n C dX12_read_2 rfl ?_
  refine r_iload_n C dX12_read_3 rfl ?_
  obtain ⟨u2, e1, hf0⟩ := ob hf0
  obtain ⟨t3, e4, hf0⟩ := ob hf0
  refine r_cV (ci := 12) (rest := [.ref v0]) (st2 := [.int t3, .ref v0]) C (s_X12_wrongPlace e4) mk_X12_wrongPlace rfl (ck_k e1) (by decide) im_X12_wrongPlace sl_X12_wrongPlace lk_X12_116 rfl rfl rfl dX12_read_4 (Nat.le_of_ble_eq_true rfl) ⟨Nat.le_of_ble_eq_true rfl, Nat.le_of_ble_eq_true rfl⟩ ⟨Nat.le_of_ble_eq_true rfl, Nat.le_of_ble_eq_true rfl⟩ ?_
  obtain ⟨h5, e6, hf0⟩ := ob hf0
  refine r_putI C fk_X12_103 dX12_read_7 e6 ?_
  refine r_aload_n C dX12_read_10 rfl ?_
  obtain ⟨t7, e8, hf0⟩ := ob hf0
  refine r_getI C fk_X12_103 rfl dX12_read_11 e8 ?_
  refine r_ifle (tgt := 23) C dX12_read_14 (by decide) (fun c9 => ?_) (fun c9 => ?_)
  · rw [if_pos c9] at hf0
    refine r_aload_n C dX12_read_23 rfl ?_
    obtain ⟨t10, e11, hf0⟩ := ob hf0
    refine r_getR C fk_X12_30 rfl dX12_read_24 e11 ?_
    refine r_bipush (v := 60) C dX12_read_27 (by decide) ?_
    refine r_iload_n C dX12_read_29 rfl ?_
    refine r_imul C dX12_read_30 ?_
    refine r_iload_n C dX12_read_31 rfl ?_
    refine r_iadd C dX12_read_32 ?_
    obtain ⟨t12, e13, hf0⟩ := ob hf0
    refine r_ldJ C dX12_read_33 e13 ?_
    obtain rfl := so hf0
    exact r_lret C dX12_read_34
  · rw [if_neg c9] at hf0
    refine r_ldc2 (v := -1) C dX12_read_17 cl_X12_124 ?_
    refine r_goto (tgt := 34) C dX12_read_20 (by decide) ?_
    obtain rfl := so hf0
    exact r_lret C dX12_read_34
def f_X12_pour_j109 (h : aH) (v0 : Nat) : Option (Int32 × aH) := (ck h 12 v0).bind fun _ => bd2 (f_X12_is h v0 (3 : Int32)) fun t1 h2 => (rZ t1).bind fun t3 => some (t3, h2)
def f_X12_pour_j54 (h : aH) (v0 : Nat) : Option (Int32 × aH) := (ck h 12 v0).bind fun _ => bd2 (f_X12_is h v0 (2 : Int32)) fun t4 h5 => (rZ t4).bind fun t6 => some (t6, h5)
def f_X12_pour_j28 (h : aH) (v0 : Nat) : Option (Int32 × aH) := (ck h 12 v0).bind fun _ => bd2 (f_X12_is h v0 (1 : Int32)) fun t7 h8 => (rZ t7).bind fun t9 => some (t9, h8)
def f_X12_pour_j143 (h : aH) (v0 : Nat) (v1 : Int32) (v2 : Int32) (v3 : Int32) (v4 : Int32) (v5 : Int32) (v6 : Int32) (s0 : Int32) : Option ((Int32 × aH) ⊕ (aH)) := (gR h 12 v0 8).bind fun t24 => (gR h 12 v0 8).bind fun t25 => (lJ h t25 ((((60 : Int32) * v1) + v2) + s0)).bind fun t26 => (sJ h t24 ((((60 : Int32) * v3) + v4) + s0) t26).bind fun h27 => (some (v6 + (1 : Int32))).bind fun t28 => some (.inl (t28, h27))
def f_X12_pour_b118 (v0 : Nat) (v1 : Int32) (v2 : Int32) (v3 : Int32) (v4 : Int32) (v5 : Int32) (v6 : Int32) (h : aH) : Option ((Int32 × aH) ⊕ (aH)) := if v5 ≤ v6 then some (.inr h) else if v4 ≤ v2 then f_X12_pour_j143 h v0 v1 v2 v3 v4 v5 v6 v6 else f_X12_pour_j143 h v0 v1 v2 v3 v4 v5 v6 ((v5 - (1 : Int32)) - v6)
def f_X12_pour_l118 (v0 : Nat) (v1 : Int32) (v2 : Int32) (v3 : Int32) (v4 : Int32) (v5 : Int32) (v6 : Int32) (h : aH) : Option (aH) := whileL wN (fun q : Int32 × aH => f_X12_pour_b118 v0 v1 v2 v3 v4 v5 q.1 q.2) (v6, h)
def f_X12_pour (h : aH) (v0 : Nat) (v1 : Int32) (v2 : Int32) (v3 : Int32) (v4 : Int32) (v5 : Int32) : Option (Int32 × aH) := (f_X12_isTray h v1).bind fun t10 => if t10 = 0 then f_X12_pour_j28 h v0 else (f_X12_isTray h v3).bind fun t11 => if t11 = 0 then f_X12_pour_j28 h v0 else if v2 < 0 then f_X12_pour_j28 h v0 else if v4 < 0 then f_X12_pour_j28 h v0 else if 0 ≤ v5 then (gR h 12 v0 7).bind fun t12 => (lI h t12 v1).bind fun t13 => if t13 = (-1 : Int32) then f_X12_pour_j54 h v0 else (gR h 12 v0 7).bind fun t14 => (lI h t14 v3).bind fun t15 => if t15 = (-1 : Int32) then f_X12_pour_j54 h v0 else (gR h 12 v0 6).bind fun t16 => (lI h t16 v1).bind fun t17 => (gR h 12 v0 6).bind fun t18 => (lI h t18 v3).bind fun t19 => if t17 = t19 then (gR h 12 v0 7).bind fun t20 => (lI h t20 v1).bind fun t21 => if (t21 - v2) < v5 then f_X12_pour_j109 h v0 else (gR h 12 v0 7).bind fun t22 => (lI h t22 v3).bind fun t23 => if v5 ≤ (t23 - v4) then (f_X12_pour_l118 v0 v1 v2 v3 v4 v5 (0 : Int32) h).bind fun h29 => (ck h29 12 v0).bind fun _ => bd2 (f_X12_is h29 v0 (0 : Int32)) fun t30 h31 => (rZ t30).bind fun t32 => some (t32, h31) else f_X12_pour_j109 h v0 else (ck h 12 v0).bind fun _ => bd2 (f_X12_is h v0 (8 : Int32)) fun t33 h34 => (rZ t33).bind fun t35 => some (t35, h34) else f_X12_pour_j28 h v0
theorem s_X12_pour {h : aH} {v0 : Nat} {v1 : Int32} {v2 : Int32} {v3 : Int32} {v4 : Int32} {v5 : Int32} {out : Int32 × aH} (hf0 : f_X12_pour h v0 v1 v2 v3 v4 v5 = some out) : EV 1 yX12_pour cX12_pour 8 (some .boolean) h [.ref v0, .int v1, .int v2, .int v3, .int v4, .int v5] (some (.int out.1)) out.2 0 0 := by
  refine EV.of (own := RX12) (lv0 := [(0, .ref v0), (1, .int v1), (2, .int v2), (3, .int v3), (4, .int v4), (5, .int v5)]) (by decide +kernel) rfl rfl (Nat.le_of_ble_eq_true rfl) ?_
  intro p l e s m args below meth c D cA B Hb C hin
  unfold f_X12_pour at hf0
  have J109 : ∀ (h1 : aH) (t2 : Nat), f_X12_pour_j109 h1 t2 = some out → gW p l e (rmO 1 0 0) s m args below meth c (MQ below (eQ D cA B Hb out.2 (some (.int out.1))) args s 0 0 (fun q => B ≤ q)) D cA B Hb 8 h1 109 [(0, .ref t2)] [] 0 0 := by
    intro h1 t2 hf0
    unfold f_X12_pour_j109 at hf0
    refine r_aload_n C dX12_pour_109 rfl ?_
    refine r_iconst (v := 3) C dX12_pour_110 (by decide) ?_
    obtain ⟨u4, e3, hf0⟩ := ob hf0
    obtain ⟨t5, h6, e7, hf0⟩ := ob2 hf0
    refine r_cV (ci := 12) (rest := []) (st2 := [.int t5]) C (s_X12_is e7) mk_X12_is rfl (ck_k e3) (by decide) im_X12_is sl_X12_is lk_X12_109 rfl rfl rfl dX12_pour_111 (Nat.le_of_ble_eq_true rfl) ⟨Nat.le_of_ble_eq_true rfl, Nat.le_of_ble_eq_true rfl⟩ ⟨Nat.le_of_ble_eq_true rfl, Nat.le_of_ble_eq_true rfl⟩ ?_
    obtain ⟨t8, e9, hf0⟩ := ob hf0
    obtain ⟨rfl, e9z⟩ := rZ_k e9
    obtain rfl := so hf0
    exact r_zret C dX12_pour_114 e9z
  have J54 : ∀ (h10 : aH) (t11 : Nat), f_X12_pour_j54 h10 t11 = some out → gW p l e (rmO 1 0 0) s m args below meth c (MQ below (eQ D cA B Hb out.2 (some (.int out.1))) args s 0 0 (fun q => B ≤ q)) D cA B Hb 8 h10 54 [(0, .ref t11)] [] 0 0 := by
    intro h10 t11 hf0
    unfold f_X12_pour_j54 at hf0
    refine r_aload_n C dX12_pour_54 rfl ?_
    refine r_iconst (v := 2) C dX12_pour_55 (by decide) ?_
    obtain ⟨u13, e12, hf0⟩ := ob hf0
    obtain ⟨t14, h15, e16, hf0⟩ := ob2 hf0
    refine r_cV (ci := 12) (rest := []) (st2 := [.int t14]) C (s_X12_is e16) mk_X12_is rfl (ck_k e12) (by decide) im_X12_is sl_X12_is lk_X12_109 rfl rfl rfl dX12_pour_56 (Nat.le_of_ble_eq_true rfl) ⟨Nat.le_of_ble_eq_true rfl, Nat.le_of_ble_eq_true rfl⟩ ⟨Nat.le_of_ble_eq_true rfl, Nat.le_of_ble_eq_true rfl⟩ ?_
    obtain ⟨t17, e18, hf0⟩ := ob hf0
    obtain ⟨rfl, e18z⟩ := rZ_k e18
    obtain rfl := so hf0
    exact r_zret C dX12_pour_59 e18z
  have J28 : ∀ (h19 : aH) (t20 : Nat), f_X12_pour_j28 h19 t20 = some out → gW p l e (rmO 1 0 0) s m args below meth c (MQ below (eQ D cA B Hb out.2 (some (.int out.1))) args s 0 0 (fun q => B ≤ q)) D cA B Hb 8 h19 28 [(0, .ref t20)] [] 0 0 := by
    intro h19 t20 hf0
    unfold f_X12_pour_j28 at hf0
    refine r_aload_n C dX12_pour_28 rfl ?_
    refine r_iconst (v := 1) C dX12_pour_29 (by decide) ?_
    obtain ⟨u22, e21, hf0⟩ := ob hf0
    obtain ⟨t23, h24, e25, hf0⟩ := ob2 hf0
    refine r_cV (ci := 12) (rest := []) (st2 := [.int t23]) C (s_X12_is e25) mk_X12_is rfl (ck_k e21) (by decide) im_X12_is sl_X12_is lk_X12_109 rfl rfl rfl dX12_pour_30 (Nat.le_of_ble_eq_true rfl) ⟨Nat.le_of_ble_eq_true rfl, Nat.le_of_ble_eq_true rfl⟩ ⟨Nat.le_of_ble_eq_true rfl, Nat.le_of_ble_eq_true rfl⟩ ?_
    obtain ⟨t26, e27, hf0⟩ := ob hf0
    obtain ⟨rfl, e27z⟩ := rZ_k e27
    obtain rfl := so hf0
    exact r_zret C dX12_pour_33 e27z
  refine r_iload_n C dX12_pour_0 rfl ?_
  obtain ⟨t28, e29, hf0⟩ := ob hf0
  refine r_cS (rest := []) (st2 := [.int t28]) C (s_X12_isTray e29) mk_X12_isTray sm_X12_isTray lk_X12_113 rfl rfl rfl dX12_pour_1 (Nat.le_of_ble_eq_true rfl) ⟨Nat.le_of_ble_eq_true rfl, Nat.le_of_ble_eq_true rfl⟩ ⟨Nat.le_of_ble_eq_true rfl, Nat.le_of_ble_eq_true rfl⟩ ?_
  refine r_ifeq (tgt := 28) C dX12_pour_4 (by decide) (fun c30 => ?_) (fun c30 => ?_)
  · rw [if_pos c30] at hf0
    refine r_subk [0] (lv' := [(0, .ref v0)]) rfl ?_
    exact J28 h v0 hf0
  · rw [if_neg c30] at hf0
    refine r_iload_n C dX12_pour_7 rfl ?_
    obtain ⟨t31, e32, hf0⟩ := ob hf0
    refine r_cS (rest := []) (st2 := [.int t31]) C (s_X12_isTray e32) mk_X12_isTray sm_X12_isTray lk_X12_113 rfl rfl rfl dX12_pour_8 (Nat.le_of_ble_eq_true rfl) ⟨Nat.le_of_ble_eq_true rfl, Nat.le_of_ble_eq_true rfl⟩ ⟨Nat.le_of_ble_eq_true rfl, Nat.le_of_ble_eq_true rfl⟩ ?_
    refine r_ifeq (tgt := 28) C dX12_pour_11 (by decide) (fun c33 => ?_) (fun c33 => ?_)
    · rw [if_pos c33] at hf0
      refine r_subk [0] (lv' := [(0, .ref v0)]) rfl ?_
      exact J28 h v0 hf0
    · rw [if_neg c33] at hf0
      refine r_iload_n C dX12_pour_14 rfl ?_
      refine r_iflt (tgt := 28) C dX12_pour_15 (by decide) (fun c34 => ?_) (fun c34 => ?_)
      · rw [if_pos c34] at hf0
        refine r_subk [0] (lv' := [(0, .ref v0)]) rfl ?_
        exact J28 h v0 hf0
      · rw [if_neg c34] at hf0
        refine r_iload C dX12_pour_18 rfl ?_
        refine r_iflt (tgt := 28) C dX12_pour_20 (by decide) (fun c35 => ?_) (fun c35 => ?_)
        · rw [if_pos c35] at hf0
          refine r_subk [0] (lv' := [(0, .ref v0)]) rfl ?_
          exact J28 h v0 hf0
        · rw [if_neg c35] at hf0
          refine r_iload C dX12_pour_23 rfl ?_
          refine r_ifge (tgt := 34) C dX12_pour_25 (by decide) (fun c36 => ?_) (fun c36 => ?_)
          · rw [if_pos c36] at hf0
            refine r_aload_n C dX12_pour_34 rfl ?_
            obtain ⟨t37, e38, hf0⟩ := ob hf0
            refine r_getR C fk_X12_27 rfl dX12_pour_35 e38 ?_
            refine r_iload_n C dX12_pour_38 rfl ?_
            obtain ⟨t39, e40, hf0⟩ := ob hf0
            refine r_ldI C dX12_pour_39 e40 ?_
            refine r_iconst (v := -1) C dX12_pour_40 (by decide) ?_
            refine r_icmp_eq (tgt := 54) C dX12_pour_41 (by decide) (fun c41 => ?_) (fun c41 => ?_)
            · rw [if_pos c41] at hf0
              refine r_subk [0] (lv' := [(0, .ref v0)]) rfl ?_
              exact J54 h v0 hf0
            · rw [if_neg c41] at hf0
              refine r_aload_n C dX12_pour_44 rfl ?_
              obtain ⟨t42, e43, hf0⟩ := ob hf0
              refine r_getR C fk_X12_27 rfl dX12_pour_45 e43 ?_
              refine r_iload_n C dX12_pour_48 rfl ?_
              obtain ⟨t44, e45, hf0⟩ := ob hf0
              refine r_ldI C dX12_pour_49 e45 ?_
              refine r_iconst (v := -1) C dX12_pour_50 (by decide) ?_
              refine r_icmp_ne (tgt := 60) C dX12_pour_51 (by decide) (fun c46 => ?_) (fun c46 => ?_)
              · rw [if_neg c46] at hf0
                refine r_aload_n C dX12_pour_60 rfl ?_
                obtain ⟨t47, e48, hf0⟩ := ob hf0
                refine r_getR C fk_X12_24 rfl dX12_pour_61 e48 ?_
                refine r_iload_n C dX12_pour_64 rfl ?_
                obtain ⟨t49, e50, hf0⟩ := ob hf0
                refine r_ldI C dX12_pour_65 e50 ?_
                refine r_aload_n C dX12_pour_66 rfl ?_
                obtain ⟨t51, e52, hf0⟩ := ob hf0
                refine r_getR C fk_X12_24 rfl dX12_pour_67 e52 ?_
                refine r_iload_n C dX12_pour_70 rfl ?_
                obtain ⟨t53, e54, hf0⟩ := ob hf0
                refine r_ldI C dX12_pour_71 e54 ?_
                refine r_icmp_eq (tgt := 82) C dX12_pour_72 (by decide) (fun c55 => ?_) (fun c55 => ?_)
                · rw [if_pos c55] at hf0
                  refine r_iload C dX12_pour_82 rfl ?_
                  refine r_aload_n C dX12_pour_84 rfl ?_
                  obtain ⟨t56, e57, hf0⟩ := ob hf0
                  refine r_getR C fk_X12_27 rfl dX12_pour_85 e57 ?_
                  refine r_iload_n C dX12_pour_88 rfl ?_
                  obtain ⟨t58, e59, hf0⟩ := ob hf0
                  refine r_ldI C dX12_pour_89 e59 ?_
                  refine r_iload_n C dX12_pour_90 rfl ?_
                  refine r_isub C dX12_pour_91 ?_
                  refine r_icmp_gt (tgt := 109) C dX12_pour_92 (by decide) (fun c60 => ?_) (fun c60 => ?_)
                  · rw [if_pos c60] at hf0
                    refine r_subk [0] (lv' := [(0, .ref v0)]) rfl ?_
                    exact J109 h v0 hf0
                  · rw [if_neg c60] at hf0
                    refine r_iload C dX12_pour_95 rfl ?_
                    refine r_aload_n C dX12_pour_97 rfl ?_
                    obtain ⟨t61, e62, hf0⟩ := ob hf0
                    refine r_getR C fk_X12_27 rfl dX12_pour_98 e62 ?_
                    refine r_iload_n C dX12_pour_101 rfl ?_
                    obtain ⟨t63, e64, hf0⟩ := ob hf0
                    refine r_ldI C dX12_pour_102 e64 ?_
                    refine r_iload C dX12_pour_103 rfl ?_
                    refine r_isub C dX12_pour_105 ?_
                    refine r_icmp_le (tgt := 115) C dX12_pour_106 (by decide) (fun c65 => ?_) (fun c65 => ?_)
                    · rw [if_pos c65] at hf0
                      refine r_iconst (v := 0) C dX12_pour_115 (by decide) ?_
                      refine r_istore (lv' := [(6, .int (0 : Int32)), (0, .ref v0), (1, .int v1), (2, .int v2), (3, .int v3), (4, .int v4), (5, .int v5)]) C dX12_pour_116 (by decide) rfl rfl ?_
                      obtain ⟨y66, hl118, hf0⟩ := ob hf0
                      have L118 : ∀ (n : Nat) (t67 : Int32) (h68 : aH), whileL n (fun q : Int32 × aH => f_X12_pour_b118 v0 v1 v2 v3 v4 v5 q.1 q.2) (t67, h68) = some y66 → gW p l e (rmO 1 0 0) s m args below meth c (MQ below (eQ D cA B Hb out.2 (some (.int out.1))) args s 0 0 (fun q => B ≤ q)) D cA B Hb 8 h68 118 [(0, .ref v0), (1, .int v1), (2, .int v2), (3, .int v3), (4, .int v4), (5, .int v5), (6, .int t67)] [] 0 0 := by
                        intro n
                        induction n with
                        | zero => intro t67 h68 hz; cases hz
                        | succ n ih118 =>
                          intro t67 h68 hz
                          obtain ⟨x118, hf1, hk118⟩ := wl hz
                          replace hf1 : f_X12_pour_b118 v0 v1 v2 v3 v4 v5 t67 h68 = some x118 := hf1
                          unfold f_X12_pour_b118 at hf1
                          have J143 : ∀ (h69 : aH) (t70 : Int32) (t71 : Int32), f_X12_pour_j143 h69 v0 v1 v2 v3 v4 v5 t70 t71 = some x118 → gW p l e (rmO 1 0 0) s m args below meth c (MQ below (eQ D cA B Hb out.2 (some (.int out.1))) args s 0 0 (fun q => B ≤ q)) D cA B Hb 8 h69 143 [(0, .ref v0), (1, .int v1), (2, .int v2), (3, .int v3), (4, .int v4), (5, .int v5), (6, .int t70)] [.int t71] 0 0 := by
                            intro h69 t70 t71 hf1
                            unfold f_X12_pour_j143 at hf1
                            refine r_istore (lv' := [(7, .int t71), (0, .ref v0), (1, .int v1), (2, .int v2), (3, .int v3), (4, .int v4), (5, .int v5), (6, .int t70)]) C dX12_pour_143 (by decide) rfl rfl ?_
                            refine r_aload_n C dX12_pour_145 rfl ?_
                            obtain ⟨t72, e73, hf1⟩ := ob hf1
                            refine r_getR C fk_X12_30 rfl dX12_pour_146 e73 ?_
                            refine r_bipush (v := 60) C dX12_pour_149 (by decide) ?_
                            refine r_iload_n C dX12_pour_151 rfl ?_
                            refine r_imul C dX12_pour_152 ?_
                            refine r_iload C dX12_pour_153 rfl ?_
                            refine r_iadd C dX12_pour_155 ?_
                            refine r_iload C dX12_pour_156 rfl ?_
                            refine r_iadd C dX12_pour_158 ?_
                            refine r_aload_n C dX12_pour_159 rfl ?_
                            obtain ⟨t74, e75, hf1⟩ := ob hf1
                            refine r_getR C fk_X12_30 rfl dX12_pour_160 e75 ?_
                            refine r_bipush (v := 60) C dX12_pour_163 (by decide) ?_
                            refine r_iload_n C dX12_pour_165 rfl ?_
                            refine r_imul C dX12_pour_166 ?_
                            refine r_iload_n C dX12_pour_167 rfl ?_
                            refine r_iadd C dX12_pour_168 ?_
                            refine r_iload C dX12_pour_169 rfl ?_
                            refine r_iadd C dX12_pour_171 ?_
                            obtain ⟨t76, e77, hf1⟩ := ob hf1
                            refine r_ldJ C dX12_pour_172 e77 ?_
                            obtain ⟨h78, e79, hf1⟩ := ob hf1
                            refine r_stJ C dX12_pour_173 e79 ?_
                            obtain ⟨t80, e81, hf1⟩ := ob hf1
                            refine r_iinc (lv' := [(6, .int t80), (7, .int t71), (0, .ref v0), (1, .int v1), (2, .int v2), (3, .int v3), (4, .int v4), (5, .int v5)]) C dX12_pour_174 rfl e81 (by decide) rfl ?_
                            refine r_goto (tgt := 118) C dX12_pour_177 (by decide) ?_
                            obtain rfl := so hf1
                            refine r_subk [2, 3, 4, 5, 6, 7, 0] (lv' := [(0, .ref v0), (1, .int v1), (2, .int v2), (3, .int v3), (4, .int v4), (5, .int v5), (6, .int t80)]) rfl ?_
                            exact ih118 t80 h78 hk118
                          refine r_iload C dX12_pour_118 rfl ?_
                          refine r_iload C dX12_pour_120 rfl ?_
                          refine r_icmp_ge (tgt := 180) C dX12_pour_122 (by decide) (fun c82 => ?_) (fun c82 => ?_)
                          · rw [if_pos c82] at hf1
                            obtain rfl := so hf1
                            obtain rfl := so (show some h68 = some y66 from hk118)
                            refine r_aload_n C dX12_pour_180 rfl ?_
                            refine r_iconst (v := 0) C dX12_pour_181 (by decide) ?_
                            obtain ⟨u84, e83, hf0⟩ := ob hf0
                            obtain ⟨t85, h86, e87, hf0⟩ := ob2 hf0
                            refine r_cV (ci := 12) (rest := []) (st2 := [.int t85]) C (s_X12_is e87) mk_X12_is rfl (ck_k e83) (by decide) im_X12_is sl_X12_is lk_X12_109 rfl rfl rfl dX12_pour_182 (Nat.le_of_ble_eq_true rfl) ⟨Nat.le_of_ble_eq_true rfl, Nat.le_of_ble_eq_true rfl⟩ ⟨Nat.le_of_ble_eq_true rfl, Nat.le_of_ble_eq_true rfl⟩ ?_
                            obtain ⟨t88, e89, hf0⟩ := ob hf0
                            obtain ⟨rfl, e89z⟩ := rZ_k e89
                            obtain rfl := so hf0
                            exact r_zret C dX12_pour_185 e89z
                          · rw [if_neg c82] at hf1
                            refine r_iload_n C dX12_pour_125 rfl ?_
                            refine r_iload C dX12_pour_126 rfl ?_
                            refine r_icmp_ge (tgt := 141) C dX12_pour_128 (by decide) (fun c90 => ?_) (fun c90 => ?_)
                            · rw [if_pos c90] at hf1
                              refine r_iload C dX12_pour_141 rfl ?_
                              exact J143 h68 t67 t67 hf1
                            · rw [if_neg c90] at hf1
                              refine r_iload C dX12_pour_131 rfl ?_
                              refine r_iconst (v := 1) C dX12_pour_133 (by decide) ?_
                              refine r_isub C dX12_pour_134 ?_
                              refine r_iload C dX12_pour_135 rfl ?_
                              refine r_isub C dX12_pour_137 ?_
                              refine r_goto (tgt := 143) C dX12_pour_138 (by decide) ?_
                              exact J143 h68 t67 ((v5 - (1 : Int32)) - t67) hf1
                      refine r_subk [1, 2, 3, 4, 5, 6, 0] (lv' := [(0, .ref v0), (1, .int v1), (2, .int v2), (3, .int v3), (4, .int v4), (5, .int v5), (6, .int (0 : Int32))]) rfl ?_
                      exact L118 wN (0 : Int32) h hl118
                    · rw [if_neg c65] at hf0
                      refine r_subk [0] (lv' := [(0, .ref v0)]) rfl ?_
                      exact J109 h v0 hf0
                · rw [if_neg c55] at hf0
                  refine r_aload_n C dX12_pour_75 rfl ?_
                  refine r_bipush (v := 8) C dX12_pour_76 (by decide) ?_
                  obtain ⟨u92, e91, hf0⟩ := ob hf0
                  obtain ⟨t93, h94, e95, hf0⟩ := ob2 hf0
                  refine r_cV (ci := 12) (rest := []) (st2 := [.int t93]) C (s_X12_is e95) mk_X12_is rfl (ck_k e91) (by decide) im_X12_is sl_X12_is lk_X12_109 rfl rfl rfl dX12_pour_78 (Nat.le_of_ble_eq_true rfl) ⟨Nat.le_of_ble_eq_true rfl, Nat.le_of_ble_eq_true rfl⟩ ⟨Nat.le_of_ble_eq_true rfl, Nat.le_of_ble_eq_true rfl⟩ ?_
                  obtain ⟨t96, e97, hf0⟩ := ob hf0
                  obtain ⟨rfl, e97z⟩ := rZ_k e97
                  obtain rfl := so hf0
                  exact r_zret C dX12_pour_81 e97z
              · rw [if_pos c46] at hf0
                refine r_subk [0] (lv' := [(0, .ref v0)]) rfl ?_
                exact J54 h v0 hf0
          · rw [if_neg c36] at hf0
            refine r_subk [0] (lv' := [(0, .ref v0)]) rfl ?_
            exact J28 h v0 hf0
def f_X12_isFrom (h : aH) (v0 : Int64) (v2 : Int64) (v4 : Int64) : Option (Int32) := if (lg_cmp v0 v2) < 0 then some (0 : Int32) else if 0 < (lg_cmp v0 v4) then some (0 : Int32) else some (1 : Int32)
theorem s_X12_isFrom {h : aH} {v0 : Int64} {v2 : Int64} {v4 : Int64} {out : Int32} (hf0 : f_X12_isFrom h v0 v2 v4 = some out) : EV 0 yX12_isFrom cX12_isFrom 6 (some .boolean) h [.long v0, .long v2, .long v4] (some (.int out)) h 0 0 := by
  refine EV.of (own := RX12) (lv0 := [(0, .long v0), (2, .long v2), (4, .long v4)]) (by decide +kernel) rfl rfl (Nat.le_of_ble_eq_true rfl) ?_
  intro p l e s m args below meth c D cA B Hb C hin
  unfold f_X12_isFrom at hf0
  refine r_lload_n C dX12_isFrom_0 rfl ?_
  refine r_lload_n C dX12_isFrom_1 rfl ?_
  refine r_lcmp C dX12_isFrom_2 ?_
  refine r_iflt (tgt := 17) C dX12_isFrom_3 (by decide) (fun c1 => ?_) (fun c1 => ?_)
  · rw [if_pos c1] at hf0
    refine r_iconst (v := 0) C dX12_isFrom_17 (by decide) ?_
    obtain rfl := so hf0
    exact r_zret C dX12_isFrom_18 (Or.inl rfl)
  · rw [if_neg c1] at hf0
    refine r_lload_n C dX12_isFrom_6 rfl ?_
    refine r_lload C dX12_isFrom_7 rfl ?_
    refine r_lcmp C dX12_isFrom_9 ?_
    refine r_ifgt (tgt := 17) C dX12_isFrom_10 (by decide) (fun c2 => ?_) (fun c2 => ?_)
    · rw [if_pos c2] at hf0
      refine r_iconst (v := 0) C dX12_isFrom_17 (by decide) ?_
      obtain rfl := so hf0
      exact r_zret C dX12_isFrom_18 (Or.inl rfl)
    · rw [if_neg c2] at hf0
      refine r_iconst (v := 1) C dX12_isFrom_13 (by decide) ?_
      refine r_goto (tgt := 18) C dX12_isFrom_14 (by decide) ?_
      obtain rfl := so hf0
      exact r_zret C dX12_isFrom_18 (Or.inr rfl)
def f_X12_four_b3 (v0 : Nat) (v1 : Int32) (v2 : Int32) (h : aH) : Option ((Int32 × aH) ⊕ (aH)) := if v2 < 0 then some (.inr h) else (gR h 12 v0 9).bind fun t1 => (gI h 12 v0 11).bind fun t2 => (sB h t1 t2 ((Int32.toInt8 (v1 >>> (v2 &&& 31))).toInt32)).bind fun h3 => (gI h3 12 v0 11).bind fun t4 => (pI h3 12 v0 11 (t4 + (1 : Int32))).bind fun h5 => (some (v2 + (-8 : Int32))).bind fun t6 => some (.inl (t6, h5))
def f_X12_four_l3 (v0 : Nat) (v1 : Int32) (v2 : Int32) (h : aH) : Option (aH) := whileL wN (fun q : Int32 × aH => f_X12_four_b3 v0 v1 q.1 q.2) (v2, h)
def f_X12_four (h : aH) (v0 : Nat) (v1 : Int32) : Option (aH) := (f_X12_four_l3 v0 v1 (24 : Int32) h).bind fun h7 => some h7
theorem s_X12_four {h : aH} {v0 : Nat} {v1 : Int32} {out : aH} (hf0 : f_X12_four h v0 v1 = some out) : EV 0 yX12_four cX12_four 3 none h [.ref v0, .int v1] none out 0 0 := by
  refine EV.of (own := RX12) (lv0 := [(0, .ref v0), (1, .int v1)]) (by decide +kernel) rfl rfl (Nat.le_of_ble_eq_true rfl) ?_
  intro p l e s m args below meth c D cA B Hb C hin
  unfold f_X12_four at hf0
  refine r_bipush (v := 24) C dX12_four_0 (by decide) ?_
  refine r_istore_n (lv' := [(2, .int (24 : Int32)), (0, .ref v0), (1, .int v1)]) C dX12_four_2 (by decide) rfl rfl ?_
  obtain ⟨y1, hl3, hf0⟩ := ob hf0
  have L3 : ∀ (n : Nat) (t2 : Int32) (h3 : aH), whileL n (fun q : Int32 × aH => f_X12_four_b3 v0 v1 q.1 q.2) (t2, h3) = some y1 → gW p l e (rmO 0 0 0) s m args below meth c (MQ below (eQ D cA B Hb out none) args s 0 0 (fun q => B ≤ q)) D cA B Hb 3 h3 3 [(0, .ref v0), (1, .int v1), (2, .int t2)] [] 0 0 := by
    intro n
    induction n with
    | zero => intro t2 h3 hz; cases hz
    | succ n ih3 =>
      intro t2 h3 hz
      obtain ⟨x3, hf1, hk3⟩ := wl hz
      replace hf1 : f_X12_four_b3 v0 v1 t2 h3 = some x3 := hf1
      unfold f_X12_four_b3 at hf1
      refine r_iload_n C dX12_four_3 rfl ?_
      refine r_iflt (tgt := 36) C dX12_four_4 (by decide) (fun c4 => ?_) (fun c4 => ?_)
      · rw [if_pos c4] at hf1
        obtain rfl := so hf1
        obtain rfl := so (show some h3 = some y1 from hk3)
        obtain rfl := so hf0
        exact r_vret C dX12_four_36
      · rw [if_neg c4] at hf1
        refine r_aload_n C dX12_four_7 rfl ?_
        obtain ⟨t5, e6, hf1⟩ := ob hf1
        refine r_getR C fk_X12_33 rfl dX12_four_8 e6 ?_
        refine r_aload_n C dX12_four_11 rfl ?_
        obtain ⟨t7, e8, hf1⟩ := ob hf1
        refine r_getI C fk_X12_126 rfl dX12_four_12 e8 ?_
        refine r_iload_n C dX12_four_15 rfl ?_
        refine r_iload_n C dX12_four_16 rfl ?_
        refine r_ishr C dX12_four_17 ?_
        refine r_i2b C dX12_four_18 ?_
        obtain ⟨h9, e10, hf1⟩ := ob hf1
        refine r_stB C dX12_four_19 e10 ?_
        refine r_aload_n C dX12_four_20 rfl ?_
        refine r_dup C dX12_four_21 rfl ?_
        obtain ⟨t11, e12, hf1⟩ := ob hf1
        refine r_getI C fk_X12_126 rfl dX12_four_22 e12 ?_
        refine r_iconst (v := 1) C dX12_four_25 (by decide) ?_
        refine r_iadd C dX12_four_26 ?_
        obtain ⟨h13, e14, hf1⟩ := ob hf1
        refine r_putI C fk_X12_126 dX12_four_27 e14 ?_
        obtain ⟨t15, e16, hf1⟩ := ob hf1
        refine r_iinc (lv' := [(2, .int t15), (0, .ref v0), (1, .int v1)]) C dX12_four_30 rfl e16 (by decide) rfl ?_
        refine r_goto (tgt := 3) C dX12_four_33 (by decide) ?_
        obtain rfl := so hf1
        refine r_subk [1, 2, 0] (lv' := [(0, .ref v0), (1, .int v1), (2, .int t15)]) rfl ?_
        exact ih3 t15 h13 hk3
  refine r_subk [1, 2, 0] (lv' := [(0, .ref v0), (1, .int v1), (2, .int (24 : Int32))]) rfl ?_
  exact L3 wN (24 : Int32) h hl3
def f_X12_feed (h : aH) (v0 : Nat) (v1 : Int32) (v2 : Int32) (v3 : Int32) (v4 : Int32) (v5 : Int32) : Option (Int32 × aH) := (gI h 12 v0 11).bind fun t1 => if (t1 + (20 : Int32)) ≤ (900 : Int32) then (ck h 12 v0).bind fun _ => (f_X12_four h v0 v1).bind fun h2 => (ck h2 12 v0).bind fun _ => (f_X12_four h2 v0 v2).bind fun h3 => (ck h3 12 v0).bind fun _ => (f_X12_four h3 v0 v3).bind fun h4 => (ck h4 12 v0).bind fun _ => (f_X12_four h4 v0 v4).bind fun h5 => (ck h5 12 v0).bind fun _ => (f_X12_four h5 v0 v5).bind fun h6 => (gI h6 12 v0 11).bind fun t7 => some (t7, h6) else some ((-1 : Int32), h)
theorem s_X12_feed {h : aH} {v0 : Nat} {v1 : Int32} {v2 : Int32} {v3 : Int32} {v4 : Int32} {v5 : Int32} {out : Int32 × aH} (hf0 : f_X12_feed h v0 v1 v2 v3 v4 v5 = some out) : EV 1 yX12_feed cX12_feed 6 (some .int) h [.ref v0, .int v1, .int v2, .int v3, .int v4, .int v5] (some (.int out.1)) out.2 0 0 := by
  refine EV.of (own := RX12) (lv0 := [(0, .ref v0), (1, .int v1), (2, .int v2), (3, .int v3), (4, .int v4), (5, .int v5)]) (by decide +kernel) rfl rfl (Nat.le_of_ble_eq_true rfl) ?_
  intro p l e s m args below meth c D cA B Hb C hin
  unfold f_X12_feed at hf0
  refine r_aload_n C dX12_feed_0 rfl ?_
  obtain ⟨t1, e2, hf0⟩ := ob hf0
  refine r_getI C fk_X12_126 rfl dX12_feed_1 e2 ?_
  refine r_bipush (v := 20) C dX12_feed_4 (by decide) ?_
  refine r_iadd C dX12_feed_6 ?_
  refine r_sipush (v := 900) C dX12_feed_7 (by decide) ?_
  refine r_icmp_le (tgt := 15) C dX12_feed_10 (by decide) (fun c3 => ?_) (fun c3 => ?_)
  · rw [if_pos c3] at hf0
    refine r_aload_n C dX12_feed_15 rfl ?_
    refine r_iload_n C dX12_feed_16 rfl ?_
    obtain ⟨u5, e4, hf0⟩ := ob hf0
    obtain ⟨h6, e7, hf0⟩ := ob hf0
    refine r_cV (ci := 12) (rest := []) (st2 := []) C (s_X12_four e7) mk_X12_four rfl (ck_k e4) (by decide) im_X12_four sl_X12_four lk_X12_129 rfl rfl rfl dX12_feed_17 (Nat.le_of_ble_eq_true rfl) ⟨Nat.le_of_ble_eq_true rfl, Nat.le_of_ble_eq_true rfl⟩ ⟨Nat.le_of_ble_eq_true rfl, Nat.le_of_ble_eq_true rfl⟩ ?_
    refine r_aload_n C dX12_feed_20 rfl ?_
    refine r_iload_n C dX12_feed_21 rfl ?_
    obtain ⟨u9, e8, hf0⟩ := ob hf0
    obtain ⟨h10, e11, hf0⟩ := ob hf0
    refine r_cV (ci := 12) (rest := []) (st2 := []) C (s_X12_four e11) mk_X12_four rfl (ck_k e8) (by decide) im_X12_four sl_X12_four lk_X12_129 rfl rfl rfl dX12_feed_22 (Nat.le_of_ble_eq_true rfl) ⟨Nat.le_of_ble_eq_true rfl, Nat.le_of_ble_eq_true rfl⟩ ⟨Nat.le_of_ble_eq_true rfl, Nat.le_of_ble_eq_true rfl⟩ ?_
    refine r_aload_n C dX12_feed_25 rfl ?_
    refine r_iload_n C dX12_feed_26 rfl ?_
    obtain ⟨u13, e12, hf0⟩ := ob hf0
    obtain ⟨h14, e15, hf0⟩ := ob hf0
    refine r_cV (ci := 12) (rest := []) (st2 := []) C (s_X12_four e15) mk_X12_four rfl (ck_k e12) (by decide) im_X12_four sl_X12_four lk_X12_129 rfl rfl rfl dX12_feed_27 (Nat.le_of_ble_eq_true rfl) ⟨Nat.le_of_ble_eq_true rfl, Nat.le_of_ble_eq_true rfl⟩ ⟨Nat.le_of_ble_eq_true rfl, Nat.le_of_ble_eq_true rfl⟩ ?_
    refine r_aload_n C dX12_feed_30 rfl ?_
    refine r_iload C dX12_feed_31 rfl ?_
    obtain ⟨u17, e16, hf0⟩ := ob hf0
    obtain ⟨h18, e19, hf0⟩ := ob hf0
    refine r_cV (ci := 12) (rest := []) (st2 := []) C (s_X12_four e19) mk_X12_four rfl (ck_k e16) (by decide) im_X12_four sl_X12_four lk_X12_129 rfl rfl rfl dX12_feed_33 (Nat.le_of_ble_eq_true rfl) ⟨Nat.le_of_ble_eq_true rfl, Nat.le_of_ble_eq_true rfl⟩ ⟨Nat.le_of_ble_eq_true rfl, Nat.le_of_ble_eq_true rfl⟩ ?_
    refine r_aload_n C dX12_feed_36 rfl ?_
    refine r_iload C dX12_feed_37 rfl ?_
    obtain ⟨u21, e20, hf0⟩ := ob hf0
    obtain ⟨h22, e23, hf0⟩ := ob hf0
    refine r_cV (ci := 12) (rest := []) (st2 := []) C (s_X12_four e23) mk_X12_four rfl (ck_k e20) (by decide) im_X12_four sl_X12_four lk_X12_129 rfl rfl rfl dX12_feed_39 (Nat.le_of_ble_eq_true rfl) ⟨Nat.le_of_ble_eq_true rfl, Nat.le_of_ble_eq_true rfl⟩ ⟨Nat.le_of_ble_eq_true rfl, Nat.le_of_ble_eq_true rfl⟩ ?_
    refine r_aload_n C dX12_feed_42 rfl ?_
    obtain ⟨t24, e25, hf0⟩ := ob hf0
    refine r_getI C fk_X12_126 rfl dX12_feed_43 e25 ?_
    obtain rfl := so hf0
    exact r_iret C dX12_feed_46
  · rw [if_neg c3] at hf0
    refine r_iconst (v := -1) C dX12_feed_13 (by decide) ?_
    obtain rfl := so hf0
    exact r_iret C dX12_feed_14
def f_X12_byteAt (h : aH) (v0 : Nat) (v1 : Int32) : Option (Int32) := (gI h 12 v0 12).bind fun t1 => if t1 ≤ v1 then some (-1 : Int32) else (gR h 12 v0 10).bind fun t2 => (lB h t2 v1).bind fun t3 => some (t3 &&& (255 : Int32))
theorem s_X12_byteAt {h : aH} {v0 : Nat} {v1 : Int32} {out : Int32} (hf0 : f_X12_byteAt h v0 v1 = some out) : EV 0 yX12_byteAt cX12_byteAt 2 (some .int) h [.ref v0, .int v1] (some (.int out)) h 0 0 := by
  refine EV.of (own := RX12) (lv0 := [(0, .ref v0), (1, .int v1)]) (by decide +kernel) rfl rfl (Nat.le_of_ble_eq_true rfl) ?_
  intro p l e s m args below meth c D cA B Hb C hin
  unfold f_X12_byteAt at hf0
  refine r_iload_n C dX12_byteAt_0 rfl ?_
  refine r_aload_n C dX12_byteAt_1 rfl ?_
  obtain ⟨t1, e2, hf0⟩ := ob hf0
  refine r_getI C fk_X12_133 rfl dX12_byteAt_2 e2 ?_
  refine r_icmp_ge (tgt := 21) C dX12_byteAt_5 (by decide) (fun c3 => ?_) (fun c3 => ?_)
  · rw [if_pos c3] at hf0
    refine r_iconst (v := -1) C dX12_byteAt_21 (by decide) ?_
    obtain rfl := so hf0
    exact r_iret C dX12_byteAt_22
  · rw [if_neg c3] at hf0
    refine r_aload_n C dX12_byteAt_8 rfl ?_
    obtain ⟨t4, e5, hf0⟩ := ob hf0
    refine r_getR C fk_X12_37 rfl dX12_byteAt_9 e5 ?_
    refine r_iload_n C dX12_byteAt_12 rfl ?_
    obtain ⟨t6, e7, hf0⟩ := ob hf0
    refine r_ldB C dX12_byteAt_13 e7 ?_
    refine r_sipush (v := 255) C dX12_byteAt_14 (by decide) ?_
    refine r_iand C dX12_byteAt_17 ?_
    refine r_goto (tgt := 22) C dX12_byteAt_18 (by decide) ?_
    obtain rfl := so hf0
    exact r_iret C dX12_byteAt_22
def f_X12_isSmall (h : aH) (v0 : Int32) : Option (Int32) := if v0 < (97 : Int32) then some (0 : Int32) else if (122 : Int32) < v0 then some (0 : Int32) else some (1 : Int32)
theorem s_X12_isSmall {h : aH} {v0 : Int32} {out : Int32} (hf0 : f_X12_isSmall h v0 = some out) : EV 0 yX12_isSmall cX12_isSmall 1 (some .boolean) h [.int v0] (some (.int out)) h 0 0 := by
  refine EV.of (own := RX12) (lv0 := [(0, .int v0)]) (by decide +kernel) rfl rfl (Nat.le_of_ble_eq_true rfl) ?_
  intro p l e s m args below meth c D cA B Hb C hin
  unfold f_X12_isSmall at hf0
  refine r_iload_n C dX12_isSmall_0 rfl ?_
  refine r_bipush (v := 97) C dX12_isSmall_1 (by decide) ?_
  refine r_icmp_lt (tgt := 16) C dX12_isSmall_3 (by decide) (fun c1 => ?_) (fun c1 => ?_)
  · rw [if_pos c1] at hf0
    refine r_iconst (v := 0) C dX12_isSmall_16 (by decide) ?_
    obtain rfl := so hf0
    exact r_zret C dX12_isSmall_17 (Or.inl rfl)
  · rw [if_neg c1] at hf0
    refine r_iload_n C dX12_isSmall_6 rfl ?_
    refine r_bipush (v := 122) C dX12_isSmall_7 (by decide) ?_
    refine r_icmp_gt (tgt := 16) C dX12_isSmall_9 (by decide) (fun c2 => ?_) (fun c2 => ?_)
    · rw [if_pos c2] at hf0
      refine r_iconst (v := 0) C dX12_isSmall_16 (by decide) ?_
      obtain rfl := so hf0
      exact r_zret C dX12_isSmall_17 (Or.inl rfl)
    · rw [if_neg c2] at hf0
      refine r_iconst (v := 1) C dX12_isSmall_12 (by decide) ?_
      refine r_goto (tgt := 17) C dX12_isSmall_13 (by decide) ?_
      obtain rfl := so hf0
      exact r_zret C dX12_isSmall_17 (Or.inr rfl)
def f_X12_isDigit (h : aH) (v0 : Int32) : Option (Int32) := if v0 < (48 : Int32) then some (0 : Int32) else if (57 : Int32) < v0 then some (0 : Int32) else some (1 : Int32)
theorem s_X12_isDigit {h : aH} {v0 : Int32} {out : Int32} (hf0 : f_X12_isDigit h v0 = some out) : EV 0 yX12_isDigit cX12_isDigit 1 (some .boolean) h [.int v0] (some (.int out)) h 0 0 := by
  refine EV.of (own := RX12) (lv0 := [(0, .int v0)]) (by decide +kernel) rfl rfl (Nat.le_of_ble_eq_true rfl) ?_
  intro p l e s m args below meth c D cA B Hb C hin
  unfold f_X12_isDigit at hf0
  refine r_iload_n C dX12_isDigit_0 rfl ?_
  refine r_bipush (v := 48) C dX12_isDigit_1 (by decide) ?_
  refine r_icmp_lt (tgt := 16) C dX12_isDigit_3 (by decide) (fun c1 => ?_) (fun c1 => ?_)
  · rw [if_pos c1] at hf0
    refine r_iconst (v := 0) C dX12_isDigit_16 (by decide) ?_
    obtain rfl := so hf0
    exact r_zret C dX12_isDigit_17 (Or.inl rfl)
  · rw [if_neg c1] at hf0
    refine r_iload_n C dX12_isDigit_6 rfl ?_
    refine r_bipush (v := 57) C dX12_isDigit_7 (by decide) ?_
    refine r_icmp_gt (tgt := 16) C dX12_isDigit_9 (by decide) (fun c2 => ?_) (fun c2 => ?_)
    · rw [if_pos c2] at hf0
      refine r_iconst (v := 0) C dX12_isDigit_16 (by decide) ?_
      obtain rfl := so hf0
      exact r_zret C dX12_isDigit_17 (Or.inl rfl)
    · rw [if_neg c2] at hf0
      refine r_iconst (v := 1) C dX12_isDigit_12 (by decide) ?_
      refine r_goto (tgt := 17) C dX12_isDigit_13 (by decide) ?_
      obtain rfl := so hf0
      exact r_zret C dX12_isDigit_17 (Or.inr rfl)
def f_X12_ahead_j26 (h : aH) (v0 : Nat) : Option ((aH) ⊕ (aH)) := (gI h 12 v0 15).bind fun t1 => (pI h 12 v0 15 (t1 + (1 : Int32))).bind fun h2 => some (.inl h2)
def f_X12_ahead_b0 (v0 : Nat) (h : aH) : Option ((aH) ⊕ (aH)) := (gI h 12 v0 15).bind fun t3 => (ck h 12 v0).bind fun _ => (f_X12_byteAt h v0 t3).bind fun t4 => if t4 = (32 : Int32) then f_X12_ahead_j26 h v0 else (gI h 12 v0 15).bind fun t5 => (ck h 12 v0).bind fun _ => (f_X12_byteAt h v0 t5).bind fun t6 => if t6 = (10 : Int32) then f_X12_ahead_j26 h v0 else some (.inr h)
def f_X12_ahead_l0 (v0 : Nat) (h : aH) : Option (aH) := whileL wN (fun q : aH => f_X12_ahead_b0 v0 q) h
def f_X12_ahead_b128 (v0 : Nat) (h : aH) : Option ((aH) ⊕ (aH)) := (gI h 12 v0 15).bind fun t22 => (ck h 12 v0).bind fun _ => (f_X12_byteAt h v0 t22).bind fun t23 => (f_X12_isDigit h t23).bind fun t24 => if t24 = 0 then some (.inr h) else (gI h 12 v0 16).bind fun t25 => (gI h 12 v0 15).bind fun t26 => (ck h 12 v0).bind fun _ => (f_X12_byteAt h v0 t26).bind fun t27 => (pI h 12 v0 16 (mnI (100000 : Int32) ((((10 : Int32) * t25) + t27) - (48 : Int32)))).bind fun h28 => (gI h28 12 v0 15).bind fun t29 => (pI h28 12 v0 15 (t29 + (1 : Int32))).bind fun h30 => some (.inl h30)
def f_X12_ahead_l128 (v0 : Nat) (h : aH) : Option (aH) := whileL wN (fun q : aH => f_X12_ahead_b128 v0 q) h
def f_X12_ahead_b81 (v0 : Nat) (h : aH) : Option ((aH) ⊕ (aH)) := (gI h 12 v0 15).bind fun t36 => (ck h 12 v0).bind fun _ => (f_X12_byteAt h v0 t36).bind fun t37 => (f_X12_isSmall h t37).bind fun t38 => if t38 = 0 then some (.inr h) else (gI h 12 v0 15).bind fun t39 => (pI h 12 v0 15 (t39 + (1 : Int32))).bind fun h40 => some (.inl h40)
def f_X12_ahead_l81 (v0 : Nat) (h : aH) : Option (aH) := whileL wN (fun q : aH => f_X12_ahead_b81 v0 q) h
def f_X12_ahead (h : aH) (v0 : Nat) : Option (aH) := (f_X12_ahead_l0 v0 h).bind fun h7 => (gI h7 12 v0 15).bind fun t8 => (pI h7 12 v0 14 t8).bind fun h9 => (gI h9 12 v0 15).bind fun t10 => (ck h9 12 v0).bind fun _ => (f_X12_byteAt h9 v0 t10).bind fun t11 => (pI h9 12 v0 16 t11).bind fun h12 => if t11 = (-1 : Int32) then (pI h12 12 v0 13 (0 : Int32)).bind fun h43 => some h43 else (f_X12_isSmall h12 t11).bind fun t13 => if t13 = 0 then (f_X12_isDigit h12 t11).bind fun t14 => if t14 = 0 then (gI h12 12 v0 15).bind fun t15 => (pI h12 12 v0 15 (t15 + (1 : Int32))).bind fun h16 => if t11 = (59 : Int32) then (pI h16 12 v0 13 (4 : Int32)).bind fun h17 => some h17 else if t11 = (40 : Int32) then (pI h16 12 v0 13 (4 : Int32)).bind fun h18 => some h18 else if t11 = (41 : Int32) then (pI h16 12 v0 13 (4 : Int32)).bind fun h20 => some h20 else (pI h16 12 v0 13 (1 : Int32)).bind fun h19 => some h19 else (pI h12 12 v0 16 (0 : Int32)).bind fun h21 => (f_X12_ahead_l128 v0 h21).bind fun h31 => (gI h31 12 v0 15).bind fun t32 => (gI h31 12 v0 14).bind fun t33 => if (t32 - t33) ≤ (4 : Int32) then (pI h31 12 v0 13 (3 : Int32)).bind fun h34 => some h34 else (pI h31 12 v0 13 (1 : Int32)).bind fun h35 => some h35 else (f_X12_ahead_l81 v0 h12).bind fun h41 => (pI h41 12 v0 13 (2 : Int32)).bind fun h42 => some h42
theorem s_X12_ahead {h : aH} {v0 : Nat} {out : aH} (hf0 : f_X12_ahead h v0 = some out) : EV 1 yX12_ahead cX12_ahead 2 none h [.ref v0] none out 0 0 := by
  refine EV.of (own := RX12) (lv0 := [(0, .ref v0)]) (by decide +kernel) rfl rfl (Nat.le_of_ble_eq_true rfl) ?_
  intro p l e s m args below meth c D cA B Hb C hin
  unfold f_X12_ahead at hf0
  obtain ⟨y1, hl0, hf0⟩ := ob hf0
  have L0 : ∀ (n : Nat) (h2 : aH), whileL n (fun q : aH => f_X12_ahead_b0 v0 q) h2 = some y1 → gW p l e (rmO 1 0 0) s m args below meth c (MQ below (eQ D cA B Hb out none) args s 0 0 (fun q => B ≤ q)) D cA B Hb 2 h2 0 [(0, .ref v0)] [] 0 0 := by
    intro n
    induction n with
    | zero => intro h2 hz; cases hz
    | succ n ih0 =>
      intro h2 hz
      obtain ⟨x0, hf1, hk0⟩ := wl hz
      replace hf1 : f_X12_ahead_b0 v0 h2 = some x0 := hf1
      unfold f_X12_ahead_b0 at hf1
      have J26 : ∀ (h3 : aH), f_X12_ahead_j26 h3 v0 = some x0 → gW p l e (rmO 1 0 0) s m args below meth c (MQ below (eQ D cA B Hb out none) args s 0 0 (fun q => B ≤ q)) D cA B Hb 2 h3 26 [(0, .ref v0)] [] 0 0 := by
        intro h3 hf1
        unfold f_X12_ahead_j26 at hf1
        refine r_aload_n C dX12_ahead_26 rfl ?_
        refine r_dup C dX12_ahead_27 rfl ?_
        obtain ⟨t4, e5, hf1⟩ := ob hf1
        refine r_getI C fk_X12_136 rfl dX12_ahead_28 e5 ?_
        refine r_iconst (v := 1) C dX12_ahead_31 (by decide) ?_
        refine r_iadd C dX12_ahead_32 ?_
        obtain ⟨h6, e7, hf1⟩ := ob hf1
        refine r_putI C fk_X12_136 dX12_ahead_33 e7 ?_
        refine r_goto (tgt := 0) C dX12_ahead_36 (by decide) ?_
        obtain rfl := so hf1
        exact ih0 h6 hk0
      refine r_aload_n C dX12_ahead_0 rfl ?_
      refine r_aload_n C dX12_ahead_1 rfl ?_
      obtain ⟨t8, e9, hf1⟩ := ob hf1
      refine r_getI C fk_X12_136 rfl dX12_ahead_2 e9 ?_
      obtain ⟨u11, e10, hf1⟩ := ob hf1
      obtain ⟨t12, e13, hf1⟩ := ob hf1
      refine r_cV (ci := 12) (rest := []) (st2 := [.int t12]) C (s_X12_byteAt e13) mk_X12_byteAt rfl (ck_k e10) (by decide) im_X12_byteAt sl_X12_byteAt lk_X12_139 rfl rfl rfl dX12_ahead_5 (Nat.le_of_ble_eq_true rfl) ⟨Nat.le_of_ble_eq_true rfl, Nat.le_of_ble_eq_true rfl⟩ ⟨Nat.le_of_ble_eq_true rfl, Nat.le_of_ble_eq_true rfl⟩ ?_
      refine r_bipush (v := 32) C dX12_ahead_8 (by decide) ?_
      refine r_icmp_eq (tgt := 26) C dX12_ahead_10 (by decide) (fun c14 => ?_) (fun c14 => ?_)
      · rw [if_pos c14] at hf1
        exact J26 h2 hf1
      · rw [if_neg c14] at hf1
        refine r_aload_n C dX12_ahead_13 rfl ?_
        refine r_aload_n C dX12_ahead_14 rfl ?_
        obtain ⟨t15, e16, hf1⟩ := ob hf1
        refine r_getI C fk_X12_136 rfl dX12_ahead_15 e16 ?_
        obtain ⟨u18, e17, hf1⟩ := ob hf1
        obtain ⟨t19, e20, hf1⟩ := ob hf1
        refine r_cV (ci := 12) (rest := []) (st2 := [.int t19]) C (s_X12_byteAt e20) mk_X12_byteAt rfl (ck_k e17) (by decide) im_X12_byteAt sl_X12_byteAt lk_X12_139 rfl rfl rfl dX12_ahead_18 (Nat.le_of_ble_eq_true rfl) ⟨Nat.le_of_ble_eq_true rfl, Nat.le_of_ble_eq_true rfl⟩ ⟨Nat.le_of_ble_eq_true rfl, Nat.le_of_ble_eq_true rfl⟩ ?_
        refine r_bipush (v := 10) C dX12_ahead_21 (by decide) ?_
        refine r_icmp_ne (tgt := 39) C dX12_ahead_23 (by decide) (fun c21 => ?_) (fun c21 => ?_)
        · rw [if_neg c21] at hf1
          obtain rfl := so hf1
          obtain rfl := so (show some h2 = some y1 from hk0)
          refine r_aload_n C dX12_ahead_39 rfl ?_
          refine r_aload_n C dX12_ahead_40 rfl ?_
          obtain ⟨t22, e23, hf0⟩ := ob hf0
          refine r_getI C fk_X12_136 rfl dX12_ahead_41 e23 ?_
          obtain ⟨h24, e25, hf0⟩ := ob hf0
          refine r_putI C fk_X12_143 dX12_ahead_44 e25 ?_
          refine r_aload_n C dX12_ahead_47 rfl ?_
          refine r_aload_n C dX12_ahead_48 rfl ?_
          obtain ⟨t26, e27, hf0⟩ := ob hf0
          refine r_getI C fk_X12_136 rfl dX12_ahead_49 e27 ?_
          obtain ⟨u29, e28, hf0⟩ := ob hf0
          obtain ⟨t30, e31, hf0⟩ := ob hf0
          refine r_cV (ci := 12) (rest := []) (st2 := [.int t30]) C (s_X12_byteAt e31) mk_X12_byteAt rfl (ck_k e28) (by decide) im_X12_byteAt sl_X12_byteAt lk_X12_139 rfl rfl rfl dX12_ahead_52 (Nat.le_of_ble_eq_true rfl) ⟨Nat.le_of_ble_eq_true rfl, Nat.le_of_ble_eq_true rfl⟩ ⟨Nat.le_of_ble_eq_true rfl, Nat.le_of_ble_eq_true rfl⟩ ?_
          refine r_istore_n (lv' := [(1, .int t30), (0, .ref v0)]) C dX12_ahead_55 (by decide) rfl rfl ?_
          refine r_aload_n C dX12_ahead_56 rfl ?_
          refine r_iload_n C dX12_ahead_57 rfl ?_
          obtain ⟨h32, e33, hf0⟩ := ob hf0
          refine r_putI C fk_X12_146 dX12_ahead_58 e33 ?_
          refine r_iload_n C dX12_ahead_61 rfl ?_
          refine r_iconst (v := -1) C dX12_ahead_62 (by decide) ?_
          refine r_icmp_ne (tgt := 74) C dX12_ahead_63 (by decide) (fun c34 => ?_) (fun c34 => ?_)
          · rw [if_neg c34] at hf0
            refine r_iload_n C dX12_ahead_74 rfl ?_
            obtain ⟨t35, e36, hf0⟩ := ob hf0
            refine r_cS (rest := []) (st2 := [.int t35]) C (s_X12_isSmall e36) mk_X12_isSmall sm_X12_isSmall lk_X12_152 rfl rfl rfl dX12_ahead_75 (Nat.le_of_ble_eq_true rfl) ⟨Nat.le_of_ble_eq_true rfl, Nat.le_of_ble_eq_true rfl⟩ ⟨Nat.le_of_ble_eq_true rfl, Nat.le_of_ble_eq_true rfl⟩ ?_
            refine r_ifeq (tgt := 116) C dX12_ahead_78 (by decide) (fun c37 => ?_) (fun c37 => ?_)
            · rw [if_pos c37] at hf0
              refine r_iload_n C dX12_ahead_116 rfl ?_
              obtain ⟨t38, e39, hf0⟩ := ob hf0
              refine r_cS (rest := []) (st2 := [.int t38]) C (s_X12_isDigit e39) mk_X12_isDigit sm_X12_isDigit lk_X12_155 rfl rfl rfl dX12_ahead_117 (Nat.le_of_ble_eq_true rfl) ⟨Nat.le_of_ble_eq_true rfl, Nat.le_of_ble_eq_true rfl⟩ ⟨Nat.le_of_ble_eq_true rfl, Nat.le_of_ble_eq_true rfl⟩ ?_
              refine r_ifeq (tgt := 208) C dX12_ahead_120 (by decide) (fun c40 => ?_) (fun c40 => ?_)
              · rw [if_pos c40] at hf0
                refine r_aload_n C dX12_ahead_208 rfl ?_
                refine r_dup C dX12_ahead_209 rfl ?_
                obtain ⟨t41, e42, hf0⟩ := ob hf0
                refine r_getI C fk_X12_136 rfl dX12_ahead_210 e42 ?_
                refine r_iconst (v := 1) C dX12_ahead_213 (by decide) ?_
                refine r_iadd C dX12_ahead_214 ?_
                obtain ⟨h43, e44, hf0⟩ := ob hf0
                refine r_putI C fk_X12_136 dX12_ahead_215 e44 ?_
                refine r_aload_n C dX12_ahead_218 rfl ?_
                refine r_iload_n C dX12_ahead_219 rfl ?_
                refine r_bipush (v := 59) C dX12_ahead_220 (by decide) ?_
                refine r_icmp_eq (tgt := 237) C dX12_ahead_222 (by decide) (fun c45 => ?_) (fun c45 => ?_)
                · rw [if_pos c45] at hf0
                  refine r_iconst (v := 4) C dX12_ahead_237 (by decide) ?_
                  refine r_goto (tgt := 242) C dX12_ahead_238 (by decide) ?_
                  obtain ⟨h46, e47, hf0⟩ := ob hf0
                  refine r_putI C fk_X12_149 dX12_ahead_242 e47 ?_
                  obtain rfl := so hf0
                  exact r_vret C dX12_ahead_245
                · rw [if_neg c45] at hf0
                  refine r_iload_n C dX12_ahead_225 rfl ?_
                  refine r_bipush (v := 40) C dX12_ahead_226 (by decide) ?_
                  refine r_icmp_eq (tgt := 237) C dX12_ahead_228 (by decide) (fun c48 => ?_) (fun c48 => ?_)
                  · rw [if_pos c48] at hf0
                    refine r_iconst (v := 4) C dX12_ahead_237 (by decide) ?_
                    refine r_goto (tgt := 242) C dX12_ahead_238 (by decide) ?_
                    obtain ⟨h49, e50, hf0⟩ := ob hf0
                    refine r_putI C fk_X12_149 dX12_ahead_242 e50 ?_
                    obtain rfl := so hf0
                    exact r_vret C dX12_ahead_245
                  · rw [if_neg c48] at hf0
                    refine r_iload_n C dX12_ahead_231 rfl ?_
                    refine r_bipush (v := 41) C dX12_ahead_232 (by decide) ?_
                    refine r_icmp_ne (tgt := 241) C dX12_ahead_234 (by decide) (fun c51 => ?_) (fun c51 => ?_)
                    · rw [if_neg c51] at hf0
                      refine r_iconst (v := 1) C dX12_ahead_241 (by decide) ?_
                      obtain ⟨h52, e53, hf0⟩ := ob hf0
                      refine r_putI C fk_X12_149 dX12_ahead_242 e53 ?_
                      obtain rfl := so hf0
                      exact r_vret C dX12_ahead_245
                    · rw [if_pos c51] at hf0
                      refine r_iconst (v := 4) C dX12_ahead_237 (by decide) ?_
                      refine r_goto (tgt := 242) C dX12_ahead_238 (by decide) ?_
                      obtain ⟨h54, e55, hf0⟩ := ob hf0
                      refine r_putI C fk_X12_149 dX12_ahead_242 e55 ?_
                      obtain rfl := so hf0
                      exact r_vret C dX12_ahead_245
              · rw [if_neg c40] at hf0
                refine r_aload_n C dX12_ahead_123 rfl ?_
                refine r_iconst (v := 0) C dX12_ahead_124 (by decide) ?_
                obtain ⟨h56, e57, hf0⟩ := ob hf0
                refine r_putI C fk_X12_146 dX12_ahead_125 e57 ?_
                obtain ⟨y58, hl128, hf0⟩ := ob hf0
                have L128 : ∀ (n : Nat) (h59 : aH), whileL n (fun q : aH => f_X12_ahead_b128 v0 q) h59 = some y58 → gW p l e (rmO 1 0 0) s m args below meth c (MQ below (eQ D cA B Hb out none) args s 0 0 (fun q => B ≤ q)) D cA B Hb 2 h59 128 [(0, .ref v0)] [] 0 0 := by
                  intro n
                  induction n with
                  | zero => intro h59 hz; cases hz
                  | succ n ih128 =>
                    intro h59 hz
                    obtain ⟨x128, hf1, hk128⟩ := wl hz
                    replace hf1 : f_X12_ahead_b128 v0 h59 = some x128 := hf1
                    unfold f_X12_ahead_b128 at hf1
                    refine r_aload_n C dX12_ahead_128 rfl ?_
                    refine r_aload_n C dX12_ahead_129 rfl ?_
                    obtain ⟨t60, e61, hf1⟩ := ob hf1
                    refine r_getI C fk_X12_136 rfl dX12_ahead_130 e61 ?_
                    obtain ⟨u63, e62, hf1⟩ := ob hf1
                    obtain ⟨t64, e65, hf1⟩ := ob hf1
                    refine r_cV (ci := 12) (rest := []) (st2 := [.int t64]) C (s_X12_byteAt e65) mk_X12_byteAt rfl (ck_k e62) (by decide) im_X12_byteAt sl_X12_byteAt lk_X12_139 rfl rfl rfl dX12_ahead_133 (Nat.le_of_ble_eq_true rfl) ⟨Nat.le_of_ble_eq_true rfl, Nat.le_of_ble_eq_true rfl⟩ ⟨Nat.le_of_ble_eq_true rfl, Nat.le_of_ble_eq_true rfl⟩ ?_
                    obtain ⟨t66, e67, hf1⟩ := ob hf1
                    refine r_cS (rest := []) (st2 := [.int t66]) C (s_X12_isDigit e67) mk_X12_isDigit sm_X12_isDigit lk_X12_155 rfl rfl rfl dX12_ahead_136 (Nat.le_of_ble_eq_true rfl) ⟨Nat.le_of_ble_eq_true rfl, Nat.le_of_ble_eq_true rfl⟩ ⟨Nat.le_of_ble_eq_true rfl, Nat.le_of_ble_eq_true rfl⟩ ?_
                    refine r_ifeq (tgt := 183) C dX12_ahead_139 (by decide) (fun c68 => ?_) (fun c68 => ?_)
                    · rw [if_pos c68] at hf1
                      obtain rfl := so hf1
                      obtain rfl := so (show some h59 = some y58 from hk128)
                      refine r_aload_n C dX12_ahead_183 rfl ?_
                      refine r_aload_n C dX12_ahead_184 rfl ?_
                      obtain ⟨t69, e70, hf0⟩ := ob hf0
                      refine r_getI C fk_X12_136 rfl dX12_ahead_185 e70 ?_
                      refine r_aload_n C dX12_ahead_188 rfl ?_
                      obtain ⟨t71, e72, hf0⟩ := ob hf0
                      refine r_getI C fk_X12_143 rfl dX12_ahead_189 e72 ?_
                      refine r_isub C dX12_ahead_192 ?_
                      refine r_iconst (v := 4) C dX12_ahead_193 (by decide) ?_
                      refine r_icmp_le (tgt := 201) C dX12_ahead_194 (by decide) (fun c73 => ?_) (fun c73 => ?_)
                      · rw [if_pos c73] at hf0
                        refine r_iconst (v := 3) C dX12_ahead_201 (by decide) ?_
                        obtain ⟨h74, e75, hf0⟩ := ob hf0
                        refine r_putI C fk_X12_149 dX12_ahead_202 e75 ?_
                        refine r_goto (tgt := 245) C dX12_ahead_205 (by decide) ?_
                        obtain rfl := so hf0
                        exact r_vret C dX12_ahead_245
                      · rw [if_neg c73] at hf0
                        refine r_iconst (v := 1) C dX12_ahead_197 (by decide) ?_
                        refine r_goto (tgt := 202) C dX12_ahead_198 (by decide) ?_
                        obtain ⟨h76, e77, hf0⟩ := ob hf0
                        refine r_putI C fk_X12_149 dX12_ahead_202 e77 ?_
                        refine r_goto (tgt := 245) C dX12_ahead_205 (by decide) ?_
                        obtain rfl := so hf0
                        exact r_vret C dX12_ahead_245
                    · rw [if_neg c68] at hf1
                      refine r_aload_n C dX12_ahead_142 rfl ?_
                      refine r_ldc (v := 100000) C dX12_ahead_143 cn_X12_158 ?_
                      refine r_bipush (v := 10) C dX12_ahead_145 (by decide) ?_
                      refine r_aload_n C dX12_ahead_147 rfl ?_
                      obtain ⟨t78, e79, hf1⟩ := ob hf1
                      refine r_getI C fk_X12_146 rfl dX12_ahead_148 e79 ?_
                      refine r_imul C dX12_ahead_151 ?_
                      refine r_aload_n C dX12_ahead_152 rfl ?_
                      refine r_aload_n C dX12_ahead_153 rfl ?_
                      obtain ⟨t80, e81, hf1⟩ := ob hf1
                      refine r_getI C fk_X12_136 rfl dX12_ahead_154 e81 ?_
                      obtain ⟨u83, e82, hf1⟩ := ob hf1
                      obtain ⟨t84, e85, hf1⟩ := ob hf1
                      refine r_cV (ci := 12) (rest := [.int ((10 : Int32) * t78), .int (100000 : Int32), .ref v0]) (st2 := [.int t84, .int ((10 : Int32) * t78), .int (100000 : Int32), .ref v0]) C (s_X12_byteAt e85) mk_X12_byteAt rfl (ck_k e82) (by decide) im_X12_byteAt sl_X12_byteAt lk_X12_139 rfl rfl rfl dX12_ahead_157 (Nat.le_of_ble_eq_true rfl) ⟨Nat.le_of_ble_eq_true rfl, Nat.le_of_ble_eq_true rfl⟩ ⟨Nat.le_of_ble_eq_true rfl, Nat.le_of_ble_eq_true rfl⟩ ?_
                      refine r_iadd C dX12_ahead_160 ?_
                      refine r_bipush (v := 48) C dX12_ahead_161 (by decide) ?_
                      refine r_isub C dX12_ahead_163 ?_
                      refine r_mmin C lk_X12_159 dX12_ahead_164 ⟨Nat.le_of_ble_eq_true rfl, Nat.le_of_ble_eq_true rfl⟩ (Nat.le_of_ble_eq_true rfl) ⟨Nat.le_of_ble_eq_true rfl, Nat.le_of_ble_eq_true rfl⟩ ?_
                      obtain ⟨h86, e87, hf1⟩ := ob hf1
                      refine r_putI C fk_X12_146 dX12_ahead_167 e87 ?_
                      refine r_aload_n C dX12_ahead_170 rfl ?_
                      refine r_dup C dX12_ahead_171 rfl ?_
                      obtain ⟨t88, e89, hf1⟩ := ob hf1
                      refine r_getI C fk_X12_136 rfl dX12_ahead_172 e89 ?_
                      refine r_iconst (v := 1) C dX12_ahead_175 (by decide) ?_
                      refine r_iadd C dX12_ahead_176 ?_
                      obtain ⟨h90, e91, hf1⟩ := ob hf1
                      refine r_putI C fk_X12_136 dX12_ahead_177 e91 ?_
                      refine r_goto (tgt := 128) C dX12_ahead_180 (by decide) ?_
                      obtain rfl := so hf1
                      exact ih128 h90 hk128
                refine r_subk [1] (lv' := [(0, .ref v0)]) rfl ?_
                exact L128 wN h56 hl128
            · rw [if_neg c37] at hf0
              obtain ⟨y92, hl81, hf0⟩ := ob hf0
              have L81 : ∀ (n : Nat) (h93 : aH), whileL n (fun q : aH => f_X12_ahead_b81 v0 q) h93 = some y92 → gW p l e (rmO 1 0 0) s m args below meth c (MQ below (eQ D cA B Hb out none) args s 0 0 (fun q => B ≤ q)) D cA B Hb 2 h93 81 [(0, .ref v0)] [] 0 0 := by
                intro n
                induction n with
                | zero => intro h93 hz; cases hz
                | succ n ih81 =>
                  intro h93 hz
                  obtain ⟨x81, hf1, hk81⟩ := wl hz
                  replace hf1 : f_X12_ahead_b81 v0 h93 = some x81 := hf1
                  unfold f_X12_ahead_b81 at hf1
                  refine r_aload_n C dX12_ahead_81 rfl ?_
                  refine r_aload_n C dX12_ahead_82 rfl ?_
                  obtain ⟨t94, e95, hf1⟩ := ob hf1
                  refine r_getI C fk_X12_136 rfl dX12_ahead_83 e95 ?_
                  obtain ⟨u97, e96, hf1⟩ := ob hf1
                  obtain ⟨t98, e99, hf1⟩ := ob hf1
                  refine r_cV (ci := 12) (rest := []) (st2 := [.int t98]) C (s_X12_byteAt e99) mk_X12_byteAt rfl (ck_k e96) (by decide) im_X12_byteAt sl_X12_byteAt lk_X12_139 rfl rfl rfl dX12_ahead_86 (Nat.le_of_ble_eq_true rfl) ⟨Nat.le_of_ble_eq_true rfl, Nat.le_of_ble_eq_true rfl⟩ ⟨Nat.le_of_ble_eq_true rfl, Nat.le_of_ble_eq_true rfl⟩ ?_
                  obtain ⟨t100, e101, hf1⟩ := ob hf1
                  refine r_cS (rest := []) (st2 := [.int t100]) C (s_X12_isSmall e101) mk_X12_isSmall sm_X12_isSmall lk_X12_152 rfl rfl rfl dX12_ahead_89 (Nat.le_of_ble_eq_true rfl) ⟨Nat.le_of_ble_eq_true rfl, Nat.le_of_ble_eq_true rfl⟩ ⟨Nat.le_of_ble_eq_true rfl, Nat.le_of_ble_eq_true rfl⟩ ?_
                  refine r_ifeq (tgt := 108) C dX12_ahead_92 (by decide) (fun c102 => ?_) (fun c102 => ?_)
                  · rw [if_pos c102] at hf1
                    obtain rfl := so hf1
                    obtain rfl := so (show some h93 = some y92 from hk81)
                    refine r_aload_n C dX12_ahead_108 rfl ?_
                    refine r_iconst (v := 2) C dX12_ahead_109 (by decide) ?_
                    obtain ⟨h103, e104, hf0⟩ := ob hf0
                    refine r_putI C fk_X12_149 dX12_ahead_110 e104 ?_
                    refine r_goto (tgt := 245) C dX12_ahead_113 (by decide) ?_
                    obtain rfl := so hf0
                    exact r_vret C dX12_ahead_245
                  · rw [if_neg c102] at hf1
                    refine r_aload_n C dX12_ahead_95 rfl ?_
                    refine r_dup C dX12_ahead_96 rfl ?_
                    obtain ⟨t105, e106, hf1⟩ := ob hf1
                    refine r_getI C fk_X12_136 rfl dX12_ahead_97 e106 ?_
                    refine r_iconst (v := 1) C dX12_ahead_100 (by decide) ?_
                    refine r_iadd C dX12_ahead_101 ?_
                    obtain ⟨h107, e108, hf1⟩ := ob hf1
                    refine r_putI C fk_X12_136 dX12_ahead_102 e108 ?_
                    refine r_goto (tgt := 81) C dX12_ahead_105 (by decide) ?_
                    obtain rfl := so hf1
                    exact ih81 h107 hk81
              refine r_subk [1] (lv' := [(0, .ref v0)]) rfl ?_
              exact L81 wN h32 hl81
          · rw [if_pos c34] at hf0
            refine r_aload_n C dX12_ahead_66 rfl ?_
            refine r_iconst (v := 0) C dX12_ahead_67 (by decide) ?_
            obtain ⟨h109, e110, hf0⟩ := ob hf0
            refine r_putI C fk_X12_149 dX12_ahead_68 e110 ?_
            refine r_goto (tgt := 245) C dX12_ahead_71 (by decide) ?_
            obtain rfl := so hf0
            exact r_vret C dX12_ahead_245
        · rw [if_pos c21] at hf1
          exact J26 h2 hf1
  exact L0 wN h hl0
def f_X12_isSign (h : aH) (v0 : Nat) (v1 : Int32) : Option (Int32) := (gI h 12 v0 13).bind fun t1 => if t1 = (4 : Int32) then (gI h 12 v0 16).bind fun t2 => if t2 = v1 then some (1 : Int32) else some (0 : Int32) else some (0 : Int32)
theorem s_X12_isSign {h : aH} {v0 : Nat} {v1 : Int32} {out : Int32} (hf0 : f_X12_isSign h v0 v1 = some out) : EV 0 yX12_isSign cX12_isSign 2 (some .boolean) h [.ref v0, .int v1] (some (.int out)) h 0 0 := by
  refine EV.of (own := RX12) (lv0 := [(0, .ref v0), (1, .int v1)]) (by decide +kernel) rfl rfl (Nat.le_of_ble_eq_true rfl) ?_
  intro p l e s m args below meth c D cA B Hb C hin
  unfold f_X12_isSign at hf0
  refine r_aload_n C dX12_isSign_0 rfl ?_
  obtain ⟨t1, e2, hf0⟩ := ob hf0
  refine r_getI C fk_X12_149 rfl dX12_isSign_1 e2 ?_
  refine r_iconst (v := 4) C dX12_isSign_4 (by decide) ?_
  refine r_icmp_ne (tgt := 20) C dX12_isSign_5 (by decide) (fun c3 => ?_) (fun c3 => ?_)
  · rw [if_neg c3] at hf0
    refine r_iconst (v := 0) C dX12_isSign_20 (by decide) ?_
    obtain rfl := so hf0
    exact r_zret C dX12_isSign_21 (Or.inl rfl)
  · rw [if_pos c3] at hf0
    refine r_aload_n C dX12_isSign_8 rfl ?_
    obtain ⟨t4, e5, hf0⟩ := ob hf0
    refine r_getI C fk_X12_146 rfl dX12_isSign_9 e5 ?_
    refine r_iload_n C dX12_isSign_12 rfl ?_
    refine r_icmp_ne (tgt := 20) C dX12_isSign_13 (by decide) (fun c6 => ?_) (fun c6 => ?_)
    · rw [if_neg c6] at hf0
      refine r_iconst (v := 0) C dX12_isSign_20 (by decide) ?_
      obtain rfl := so hf0
      exact r_zret C dX12_isSign_21 (Or.inl rfl)
    · rw [if_pos c6] at hf0
      refine r_iconst (v := 1) C dX12_isSign_16 (by decide) ?_
      refine r_goto (tgt := 21) C dX12_isSign_17 (by decide) ?_
      obtain rfl := so hf0
      exact r_zret C dX12_isSign_21 (Or.inr rfl)
def f_X12_fails_j21 (h : aH) (v0 : Nat) (s0 : Nat) (s1 : Int32) : Option (Int32 × aH) := (pI h 12 s0 19 s1).bind fun h1 => (gI h1 12 v0 14).bind fun t2 => (pI h1 12 v0 18 t2).bind fun h3 => some ((0 : Int32), h3)
def f_X12_fails (h : aH) (v0 : Nat) (v1 : Int32) : Option (Int32 × aH) := (gI h 12 v0 19).bind fun t4 => if t4 = 0 then (gI h 12 v0 13).bind fun t5 => if t5 = (1 : Int32) then f_X12_fails_j21 h v0 v0 (1 : Int32) else f_X12_fails_j21 h v0 v0 v1 else some ((0 : Int32), h)
theorem s_X12_fails {h : aH} {v0 : Nat} {v1 : Int32} {out : Int32 × aH} (hf0 : f_X12_fails h v0 v1 = some out) : EV 0 yX12_fails cX12_fails 2 (some .boolean) h [.ref v0, .int v1] (some (.int out.1)) out.2 0 0 := by
  refine EV.of (own := RX12) (lv0 := [(0, .ref v0), (1, .int v1)]) (by decide +kernel) rfl rfl (Nat.le_of_ble_eq_true rfl) ?_
  intro p l e s m args below meth c D cA B Hb C hin
  unfold f_X12_fails at hf0
  have J21 : ∀ (h1 : aH) (t2 : Nat) (t3 : Nat) (t4 : Int32), f_X12_fails_j21 h1 t2 t3 t4 = some out → gW p l e (rmO 0 0 0) s m args below meth c (MQ below (eQ D cA B Hb out.2 (some (.int out.1))) args s 0 0 (fun q => B ≤ q)) D cA B Hb 2 h1 21 [(0, .ref t2)] [.int t4, .ref t3] 0 0 := by
    intro h1 t2 t3 t4 hf0
    unfold f_X12_fails_j21 at hf0
    obtain ⟨h5, e6, hf0⟩ := ob hf0
    refine r_putI C fk_X12_174 dX12_fails_21 e6 ?_
    refine r_aload_n C dX12_fails_24 rfl ?_
    refine r_aload_n C dX12_fails_25 rfl ?_
    obtain ⟨t7, e8, hf0⟩ := ob hf0
    refine r_getI C fk_X12_143 rfl dX12_fails_26 e8 ?_
    obtain ⟨h9, e10, hf0⟩ := ob hf0
    refine r_putI C fk_X12_44 dX12_fails_29 e10 ?_
    refine r_iconst (v := 0) C dX12_fails_32 (by decide) ?_
    obtain rfl := so hf0
    exact r_zret C dX12_fails_33 (Or.inl rfl)
  refine r_aload_n C dX12_fails_0 rfl ?_
  obtain ⟨t11, e12, hf0⟩ := ob hf0
  refine r_getI C fk_X12_174 rfl dX12_fails_1 e12 ?_
  refine r_ifne (tgt := 32) C dX12_fails_4 (by decide) (fun c13 => ?_) (fun c13 => ?_)
  · rw [if_neg c13] at hf0
    refine r_iconst (v := 0) C dX12_fails_32 (by decide) ?_
    obtain rfl := so hf0
    exact r_zret C dX12_fails_33 (Or.inl rfl)
  · rw [if_pos c13] at hf0
    refine r_aload_n C dX12_fails_7 rfl ?_
    refine r_aload_n C dX12_fails_8 rfl ?_
    obtain ⟨t14, e15, hf0⟩ := ob hf0
    refine r_getI C fk_X12_149 rfl dX12_fails_9 e15 ?_
    refine r_iconst (v := 1) C dX12_fails_12 (by decide) ?_
    refine r_icmp_ne (tgt := 20) C dX12_fails_13 (by decide) (fun c16 => ?_) (fun c16 => ?_)
    · rw [if_neg c16] at hf0
      refine r_iload_n C dX12_fails_20 rfl ?_
      refine r_subk [0] (lv' := [(0, .ref v0)]) rfl ?_
      exact J21 h v0 v0 v1 hf0
    · rw [if_pos c16] at hf0
      refine r_iconst (v := 1) C dX12_fails_16 (by decide) ?_
      refine r_goto (tgt := 21) C dX12_fails_17 (by decide) ?_
      refine r_subk [0] (lv' := [(0, .ref v0)]) rfl ?_
      exact J21 h v0 v0 (1 : Int32) hf0
def f_X12_begins_b26 (v0 : Nat) (v1 : Int32) (v3 : Int32) (h : aH) : Option ((Int32 × aH) ⊕ (aH)) := if v1 ≤ v3 then some (.inr h) else (gR h 12 v0 10).bind fun t3 => (gR h 12 v0 9).bind fun t4 => (lB h t4 v3).bind fun t5 => (sB h t3 v3 t5).bind fun h6 => (some (v3 + (1 : Int32))).bind fun t7 => some (.inl (t7, h6))
def f_X12_begins_l26 (v0 : Nat) (v1 : Int32) (v3 : Int32) (h : aH) : Option (aH) := whileL wN (fun q : Int32 × aH => f_X12_begins_b26 v0 v1 q.1 q.2) (v3, h)
def f_X12_begins (h : aH) (v0 : Nat) (v1 : Int32) (v2 : Int32) : Option (Int32 × aH) := if v1 < 0 then some ((0 : Int32), h) else (gI h 12 v0 11).bind fun t1 => if t1 < v1 then some ((0 : Int32), h) else if v1 ≤ v2 then (pI h 12 v0 12 v1).bind fun h2 => (f_X12_begins_l26 v0 v1 (0 : Int32) h2).bind fun h8 => (pI h8 12 v0 11 (0 : Int32)).bind fun h9 => (pI h9 12 v0 19 (0 : Int32)).bind fun h10 => (pI h10 12 v0 18 (-1 : Int32)).bind fun h11 => (pI h11 12 v0 15 (0 : Int32)).bind fun h12 => (pI h12 12 v0 20 (0 : Int32)).bind fun h13 => (ck h13 12 v0).bind fun _ => (f_X12_ahead h13 v0).bind fun h14 => some ((1 : Int32), h14) else some ((0 : Int32), h)
theorem s_X12_begins {h : aH} {v0 : Nat} {v1 : Int32} {v2 : Int32} {out : Int32 × aH} (hf0 : f_X12_begins h v0 v1 v2 = some out) : EV 2 yX12_begins cX12_begins 4 (some .boolean) h [.ref v0, .int v1, .int v2] (some (.int out.1)) out.2 0 0 := by
  refine EV.of (own := RX12) (lv0 := [(0, .ref v0), (1, .int v1), (2, .int v2)]) (by decide +kernel) rfl rfl (Nat.le_of_ble_eq_true rfl) ?_
  intro p l e s m args below meth c D cA B Hb C hin
  unfold f_X12_begins at hf0
  refine r_iload_n C dX12_begins_0 rfl ?_
  refine r_iflt (tgt := 17) C dX12_begins_1 (by decide) (fun c1 => ?_) (fun c1 => ?_)
  · rw [if_pos c1] at hf0
    refine r_iconst (v := 0) C dX12_begins_17 (by decide) ?_
    obtain rfl := so hf0
    exact r_zret C dX12_begins_18 (Or.inl rfl)
  · rw [if_neg c1] at hf0
    refine r_iload_n C dX12_begins_4 rfl ?_
    refine r_aload_n C dX12_begins_5 rfl ?_
    obtain ⟨t2, e3, hf0⟩ := ob hf0
    refine r_getI C fk_X12_126 rfl dX12_begins_6 e3 ?_
    refine r_icmp_gt (tgt := 17) C dX12_begins_9 (by decide) (fun c4 => ?_) (fun c4 => ?_)
    · rw [if_pos c4] at hf0
      refine r_iconst (v := 0) C dX12_begins_17 (by decide) ?_
      obtain rfl := so hf0
      exact r_zret C dX12_begins_18 (Or.inl rfl)
    · rw [if_neg c4] at hf0
      refine r_iload_n C dX12_begins_12 rfl ?_
      refine r_iload_n C dX12_begins_13 rfl ?_
      refine r_icmp_le (tgt := 19) C dX12_begins_14 (by decide) (fun c5 => ?_) (fun c5 => ?_)
      · rw [if_pos c5] at hf0
        refine r_aload_n C dX12_begins_19 rfl ?_
        refine r_iload_n C dX12_begins_20 rfl ?_
        obtain ⟨h6, e7, hf0⟩ := ob hf0
        refine r_putI C fk_X12_133 dX12_begins_21 e7 ?_
        refine r_iconst (v := 0) C dX12_begins_24 (by decide) ?_
        refine r_istore_n (lv' := [(3, .int (0 : Int32)), (0, .ref v0), (1, .int v1), (2, .int v2)]) C dX12_begins_25 (by decide) rfl rfl ?_
        obtain ⟨y8, hl26, hf0⟩ := ob hf0
        have L26 : ∀ (n : Nat) (t9 : Int32) (h10 : aH), whileL n (fun q : Int32 × aH => f_X12_begins_b26 v0 v1 q.1 q.2) (t9, h10) = some y8 → gW p l e (rmO 2 0 0) s m args below meth c (MQ below (eQ D cA B Hb out.2 (some (.int out.1))) args s 0 0 (fun q => B ≤ q)) D cA B Hb 4 h10 26 [(0, .ref v0), (1, .int v1), (3, .int t9)] [] 0 0 := by
          intro n
          induction n with
          | zero => intro t9 h10 hz; cases hz
          | succ n ih26 =>
            intro t9 h10 hz
            obtain ⟨x26, hf1, hk26⟩ := wl hz
            replace hf1 : f_X12_begins_b26 v0 v1 t9 h10 = some x26 := hf1
            unfold f_X12_begins_b26 at hf1
            refine r_iload_n C dX12_begins_26 rfl ?_
            refine r_iload_n C dX12_begins_27 rfl ?_
            refine r_icmp_ge (tgt := 49) C dX12_begins_28 (by decide) (fun c11 => ?_) (fun c11 => ?_)
            · rw [if_pos c11] at hf1
              obtain rfl := so hf1
              obtain rfl := so (show some h10 = some y8 from hk26)
              refine r_aload_n C dX12_begins_49 rfl ?_
              refine r_iconst (v := 0) C dX12_begins_50 (by decide) ?_
              obtain ⟨h12, e13, hf0⟩ := ob hf0
              refine r_putI C fk_X12_126 dX12_begins_51 e13 ?_
              refine r_aload_n C dX12_begins_54 rfl ?_
              refine r_iconst (v := 0) C dX12_begins_55 (by decide) ?_
              obtain ⟨h14, e15, hf0⟩ := ob hf0
              refine r_putI C fk_X12_174 dX12_begins_56 e15 ?_
              refine r_aload_n C dX12_begins_59 rfl ?_
              refine r_iconst (v := -1) C dX12_begins_60 (by decide) ?_
              obtain ⟨h16, e17, hf0⟩ := ob hf0
              refine r_putI C fk_X12_44 dX12_begins_61 e17 ?_
              refine r_aload_n C dX12_begins_64 rfl ?_
              refine r_iconst (v := 0) C dX12_begins_65 (by decide) ?_
              obtain ⟨h18, e19, hf0⟩ := ob hf0
              refine r_putI C fk_X12_136 dX12_begins_66 e19 ?_
              refine r_aload_n C dX12_begins_69 rfl ?_
              refine r_iconst (v := 0) C dX12_begins_70 (by decide) ?_
              obtain ⟨h20, e21, hf0⟩ := ob hf0
              refine r_putI C fk_X12_177 dX12_begins_71 e21 ?_
              refine r_aload_n C dX12_begins_74 rfl ?_
              obtain ⟨u23, e22, hf0⟩ := ob hf0
              obtain ⟨h24, e25, hf0⟩ := ob hf0
              refine r_cV (ci := 12) (rest := []) (st2 := []) C (s_X12_ahead e25) mk_X12_ahead rfl (ck_k e22) (by decide) im_X12_ahead sl_X12_ahead lk_X12_180 rfl rfl rfl dX12_begins_75 (Nat.le_of_ble_eq_true rfl) ⟨Nat.le_of_ble_eq_true rfl, Nat.le_of_ble_eq_true rfl⟩ ⟨Nat.le_of_ble_eq_true rfl, Nat.le_of_ble_eq_true rfl⟩ ?_
              refine r_iconst (v := 1) C dX12_begins_78 (by decide) ?_
              obtain rfl := so hf0
              exact r_zret C dX12_begins_79 (Or.inr rfl)
            · rw [if_neg c11] at hf1
              refine r_aload_n C dX12_begins_31 rfl ?_
              obtain ⟨t26, e27, hf1⟩ := ob hf1
              refine r_getR C fk_X12_37 rfl dX12_begins_32 e27 ?_
              refine r_iload_n C dX12_begins_35 rfl ?_
              refine r_aload_n C dX12_begins_36 rfl ?_
              obtain ⟨t28, e29, hf1⟩ := ob hf1
              refine r_getR C fk_X12_33 rfl dX12_begins_37 e29 ?_
              refine r_iload_n C dX12_begins_40 rfl ?_
              obtain ⟨t30, e31, hf1⟩ := ob hf1
              refine r_ldB C dX12_begins_41 e31 ?_
              obtain ⟨h32, e33, hf1⟩ := ob hf1
              refine r_stB C dX12_begins_42 e33 ?_
              obtain ⟨t34, e35, hf1⟩ := ob hf1
              refine r_iinc (lv' := [(3, .int t34), (0, .ref v0), (1, .int v1)]) C dX12_begins_43 rfl e35 (by decide) rfl ?_
              refine r_goto (tgt := 26) C dX12_begins_46 (by decide) ?_
              obtain rfl := so hf1
              refine r_subk [1, 2, 0] (lv' := [(0, .ref v0), (1, .int v1), (3, .int t34)]) rfl ?_
              exact ih26 t34 h32 hk26
        refine r_subk [1, 2, 0] (lv' := [(0, .ref v0), (1, .int v1), (3, .int (0 : Int32))]) rfl ?_
        exact L26 wN (0 : Int32) h6 hl26
      · rw [if_neg c5] at hf0
        refine r_iconst (v := 0) C dX12_begins_17 (by decide) ?_
        obtain rfl := so hf0
        exact r_zret C dX12_begins_18 (Or.inl rfl)
def f_X12_wantSign (h : aH) (v0 : Nat) (v1 : Int32) : Option (Int32 × aH) := (ck h 12 v0).bind fun _ => (f_X12_isSign h v0 v1).bind fun t1 => if t1 = 0 then (ck h 12 v0).bind fun _ => bd2 (f_X12_fails h v0 (2 : Int32)) fun t3 h4 => (rZ t3).bind fun t5 => some (t5, h4) else (ck h 12 v0).bind fun _ => (f_X12_ahead h v0).bind fun h2 => some ((1 : Int32), h2)
theorem s_X12_wantSign {h : aH} {v0 : Nat} {v1 : Int32} {out : Int32 × aH} (hf0 : f_X12_wantSign h v0 v1 = some out) : EV 2 yX12_wantSign cX12_wantSign 2 (some .boolean) h [.ref v0, .int v1] (some (.int out.1)) out.2 0 0 := by
  refine EV.of (own := RX12) (lv0 := [(0, .ref v0), (1, .int v1)]) (by decide +kernel) rfl rfl (Nat.le_of_ble_eq_true rfl) ?_
  intro p l e s m args below meth c D cA B Hb C hin
  unfold f_X12_wantSign at hf0
  refine r_aload_n C dX12_wantSign_0 rfl ?_
  refine r_iload_n C dX12_wantSign_1 rfl ?_
  obtain ⟨u2, e1, hf0⟩ := ob hf0
  obtain ⟨t3, e4, hf0⟩ := ob hf0
  refine r_cV (ci := 12) (rest := []) (st2 := [.int t3]) C (s_X12_isSign e4) mk_X12_isSign rfl (ck_k e1) (by decide) im_X12_isSign sl_X12_isSign lk_X12_183 rfl rfl rfl dX12_wantSign_2 (Nat.le_of_ble_eq_true rfl) ⟨Nat.le_of_ble_eq_true rfl, Nat.le_of_ble_eq_true rfl⟩ ⟨Nat.le_of_ble_eq_true rfl, Nat.le_of_ble_eq_true rfl⟩ ?_
  refine r_ifne (tgt := 14) C dX12_wantSign_5 (by decide) (fun c5 => ?_) (fun c5 => ?_)
  · rw [if_neg c5] at hf0
    refine r_aload_n C dX12_wantSign_14 rfl ?_
    obtain ⟨u7, e6, hf0⟩ := ob hf0
    obtain ⟨h8, e9, hf0⟩ := ob hf0
    refine r_cV (ci := 12) (rest := []) (st2 := []) C (s_X12_ahead e9) mk_X12_ahead rfl (ck_k e6) (by decide) im_X12_ahead sl_X12_ahead lk_X12_180 rfl rfl rfl dX12_wantSign_15 (Nat.le_of_ble_eq_true rfl) ⟨Nat.le_of_ble_eq_true rfl, Nat.le_of_ble_eq_true rfl⟩ ⟨Nat.le_of_ble_eq_true rfl, Nat.le_of_ble_eq_true rfl⟩ ?_
    refine r_iconst (v := 1) C dX12_wantSign_18 (by decide) ?_
    obtain rfl := so hf0
    exact r_zret C dX12_wantSign_19 (Or.inr rfl)
  · rw [if_pos c5] at hf0
    refine r_aload_n C dX12_wantSign_8 rfl ?_
    refine r_iconst (v := 2) C dX12_wantSign_9 (by decide) ?_
    obtain ⟨u11, e10, hf0⟩ := ob hf0
    obtain ⟨t12, h13, e14, hf0⟩ := ob2 hf0
    refine r_cV (ci := 12) (rest := []) (st2 := [.int t12]) C (s_X12_fails e14) mk_X12_fails rfl (ck_k e10) (by decide) im_X12_fails sl_X12_fails lk_X12_186 rfl rfl rfl dX12_wantSign_10 (Nat.le_of_ble_eq_true rfl) ⟨Nat.le_of_ble_eq_true rfl, Nat.le_of_ble_eq_true rfl⟩ ⟨Nat.le_of_ble_eq_true rfl, Nat.le_of_ble_eq_true rfl⟩ ?_
    obtain ⟨t15, e16, hf0⟩ := ob hf0
    obtain ⟨rfl, e16z⟩ := rZ_k e16
    obtain rfl := so hf0
    exact r_zret C dX12_wantSign_13 e16z
def f_X12_number_j30 (h : aH) (v0 : Nat) : Option (Int32 × aH) := (ck h 12 v0).bind fun _ => bd2 (f_X12_fails h v0 (4 : Int32)) fun t1 h2 => (rZ t1).bind fun t3 => some (t3, h2)
def f_X12_number (h : aH) (v0 : Nat) (v1 : Int32) (v2 : Int32) (v3 : Int32) : Option (Int32 × aH) := (gI h 12 v0 13).bind fun t4 => if t4 = (3 : Int32) then (gI h 12 v0 16).bind fun t5 => if t5 < v2 then f_X12_number_j30 h v0 else (gI h 12 v0 16).bind fun t6 => if t6 ≤ v3 then (gR h 12 v0 0).bind fun t7 => (gI h 12 v0 16).bind fun t8 => (sI h t7 v1 t8).bind fun h9 => (ck h9 12 v0).bind fun _ => (f_X12_ahead h9 v0).bind fun h10 => some ((1 : Int32), h10) else f_X12_number_j30 h v0 else (ck h 12 v0).bind fun _ => bd2 (f_X12_fails h v0 (2 : Int32)) fun t11 h12 => (rZ t11).bind fun t13 => some (t13, h12)
theorem s_X12_number {h : aH} {v0 : Nat} {v1 : Int32} {v2 : Int32} {v3 : Int32} {out : Int32 × aH} (hf0 : f_X12_number h v0 v1 v2 v3 = some out) : EV 2 yX12_number cX12_number 4 (some .boolean) h [.ref v0, .int v1, .int v2, .int v3] (some (.int out.1)) out.2 0 0 := by
  refine EV.of (own := RX12) (lv0 := [(0, .ref v0), (1, .int v1), (2, .int v2), (3, .int v3)]) (by decide +kernel) rfl rfl (Nat.le_of_ble_eq_true rfl) ?_
  intro p l e s m args below meth c D cA B Hb C hin
  unfold f_X12_number at hf0
  have J30 : ∀ (h1 : aH) (t2 : Nat), f_X12_number_j30 h1 t2 = some out → gW p l e (rmO 2 0 0) s m args below meth c (MQ below (eQ D cA B Hb out.2 (some (.int out.1))) args s 0 0 (fun q => B ≤ q)) D cA B Hb 4 h1 30 [(0, .ref t2)] [] 0 0 := by
    intro h1 t2 hf0
    unfold f_X12_number_j30 at hf0
    refine r_aload_n C dX12_number_30 rfl ?_
    refine r_iconst (v := 4) C dX12_number_31 (by decide) ?_
    obtain ⟨u4, e3, hf0⟩ := ob hf0
    obtain ⟨t5, h6, e7, hf0⟩ := ob2 hf0
    refine r_cV (ci := 12) (rest := []) (st2 := [.int t5]) C (s_X12_fails e7) mk_X12_fails rfl (ck_k e3) (by decide) im_X12_fails sl_X12_fails lk_X12_186 rfl rfl rfl dX12_number_32 (Nat.le_of_ble_eq_true rfl) ⟨Nat.le_of_ble_eq_true rfl, Nat.le_of_ble_eq_true rfl⟩ ⟨Nat.le_of_ble_eq_true rfl, Nat.le_of_ble_eq_true rfl⟩ ?_
    obtain ⟨t8, e9, hf0⟩ := ob hf0
    obtain ⟨rfl, e9z⟩ := rZ_k e9
    obtain rfl := so hf0
    exact r_zret C dX12_number_35 e9z
  refine r_aload_n C dX12_number_0 rfl ?_
  obtain ⟨t10, e11, hf0⟩ := ob hf0
  refine r_getI C fk_X12_149 rfl dX12_number_1 e11 ?_
  refine r_iconst (v := 3) C dX12_number_4 (by decide) ?_
  refine r_icmp_eq (tgt := 14) C dX12_number_5 (by decide) (fun c12 => ?_) (fun c12 => ?_)
  · rw [if_pos c12] at hf0
    refine r_aload_n C dX12_number_14 rfl ?_
    obtain ⟨t13, e14, hf0⟩ := ob hf0
    refine r_getI C fk_X12_146 rfl dX12_number_15 e14 ?_
    refine r_iload_n C dX12_number_18 rfl ?_
    refine r_icmp_lt (tgt := 30) C dX12_number_19 (by decide) (fun c15 => ?_) (fun c15 => ?_)
    · rw [if_pos c15] at hf0
      refine r_subk [0] (lv' := [(0, .ref v0)]) rfl ?_
      exact J30 h v0 hf0
    · rw [if_neg c15] at hf0
      refine r_aload_n C dX12_number_22 rfl ?_
      obtain ⟨t16, e17, hf0⟩ := ob hf0
      refine r_getI C fk_X12_146 rfl dX12_number_23 e17 ?_
      refine r_iload_n C dX12_number_26 rfl ?_
      refine r_icmp_le (tgt := 36) C dX12_number_27 (by decide) (fun c18 => ?_) (fun c18 => ?_)
      · rw [if_pos c18] at hf0
        refine r_aload_n C dX12_number_36 rfl ?_
        obtain ⟨t19, e20, hf0⟩ := ob hf0
        refine r_getR C fk_X12_7 rfl dX12_number_37 e20 ?_
        refine r_iload_n C dX12_number_40 rfl ?_
        refine r_aload_n C dX12_number_41 rfl ?_
        obtain ⟨t21, e22, hf0⟩ := ob hf0
        refine r_getI C fk_X12_146 rfl dX12_number_42 e22 ?_
        obtain ⟨h23, e24, hf0⟩ := ob hf0
        refine r_stI C dX12_number_45 e24 ?_
        refine r_aload_n C dX12_number_46 rfl ?_
        obtain ⟨u26, e25, hf0⟩ := ob hf0
        obtain ⟨h27, e28, hf0⟩ := ob hf0
        refine r_cV (ci := 12) (rest := []) (st2 := []) C (s_X12_ahead e28) mk_X12_ahead rfl (ck_k e25) (by decide) im_X12_ahead sl_X12_ahead lk_X12_180 rfl rfl rfl dX12_number_47 (Nat.le_of_ble_eq_true rfl) ⟨Nat.le_of_ble_eq_true rfl, Nat.le_of_ble_eq_true rfl⟩ ⟨Nat.le_of_ble_eq_true rfl, Nat.le_of_ble_eq_true rfl⟩ ?_
        refine r_iconst (v := 1) C dX12_number_50 (by decide) ?_
        obtain rfl := so hf0
        exact r_zret C dX12_number_51 (Or.inr rfl)
      · rw [if_neg c18] at hf0
        refine r_subk [0] (lv' := [(0, .ref v0)]) rfl ?_
        exact J30 h v0 hf0
  · rw [if_neg c12] at hf0
    refine r_aload_n C dX12_number_8 rfl ?_
    refine r_iconst (v := 2) C dX12_number_9 (by decide) ?_
    obtain ⟨u30, e29, hf0⟩ := ob hf0
    obtain ⟨t31, h32, e33, hf0⟩ := ob2 hf0
    refine r_cV (ci := 12) (rest := []) (st2 := [.int t31]) C (s_X12_fails e33) mk_X12_fails rfl (ck_k e29) (by decide) im_X12_fails sl_X12_fails lk_X12_186 rfl rfl rfl dX12_number_10 (Nat.le_of_ble_eq_true rfl) ⟨Nat.le_of_ble_eq_true rfl, Nat.le_of_ble_eq_true rfl⟩ ⟨Nat.le_of_ble_eq_true rfl, Nat.le_of_ble_eq_true rfl⟩ ?_
    obtain ⟨t34, e35, hf0⟩ := ob hf0
    obtain ⟨rfl, e35z⟩ := rZ_k e35
    obtain rfl := so hf0
    exact r_zret C dX12_number_13 e35z
def f_X12_nameHere_b7 (h : aH) (v0 : Nat) (v1 : Int64) (v3 : Int32) : Option ((Int64 × Int32) ⊕ (Int64)) := (gI h 12 v0 15).bind fun t2 => if t2 ≤ v3 then some (.inr v1) else (ck h 12 v0).bind fun _ => (f_X12_byteAt h v0 v3).bind fun t3 => (some ((v1 <<< (Int32.toInt64 (8 : Int32) &&& 63)) ||| (Int32.toInt64 t3))).bind fun t4 => (some (v3 + (1 : Int32))).bind fun t5 => some (.inl (t4, t5))
def f_X12_nameHere_l7 (h : aH) (v0 : Nat) (v1 : Int64) (v3 : Int32) : Option (Int64) := whileL wN (fun q : Int64 × Int32 => f_X12_nameHere_b7 h v0 q.1 q.2) (v1, v3)
def f_X12_nameHere (h : aH) (v0 : Nat) : Option (Int64) := (gI h 12 v0 14).bind fun t1 => (f_X12_nameHere_l7 h v0 (0 : Int64) t1).bind fun t6 => some t6
theorem s_X12_nameHere {h : aH} {v0 : Nat} {out : Int64} (hf0 : f_X12_nameHere h v0 = some out) : EV 1 yX12_nameHere cX12_nameHere 4 (some .long) h [.ref v0] (some (.long out)) h 0 0 := by
  refine EV.of (own := RX12) (lv0 := [(0, .ref v0)]) (by decide +kernel) rfl rfl (Nat.le_of_ble_eq_true rfl) ?_
  intro p l e s m args below meth c D cA B Hb C hin
  unfold f_X12_nameHere at hf0
  refine r_lconst (v := 0) C dX12_nameHere_0 (by decide) ?_
  refine r_lstore_n (lv' := [(1, .long (0 : Int64)), (0, .ref v0)]) C dX12_nameHere_1 (by decide) rfl rfl ?_
  refine r_aload_n C dX12_nameHere_2 rfl ?_
  obtain ⟨t1, e2, hf0⟩ := ob hf0
  refine r_getI C fk_X12_143 rfl dX12_nameHere_3 e2 ?_
  refine r_istore_n (lv' := [(3, .int t1), (1, .long (0 : Int64)), (0, .ref v0)]) C dX12_nameHere_6 (by decide) rfl rfl ?_
  obtain ⟨y3, hl7, hf0⟩ := ob hf0
  have L7 : ∀ (n : Nat) (t4 : Int64) (t5 : Int32), whileL n (fun q : Int64 × Int32 => f_X12_nameHere_b7 h v0 q.1 q.2) (t4, t5) = some y3 → gW p l e (rmO 1 0 0) s m args below meth c (MQ below (eQ D cA B Hb h (some (.long out))) args s 0 0 (fun q => B ≤ q)) D cA B Hb 4 h 7 [(0, .ref v0), (1, .long t4), (3, .int t5)] [] 0 0 := by
    intro n
    induction n with
    | zero => intro t4 t5 hz; cases hz
    | succ n ih7 =>
      intro t4 t5 hz
      obtain ⟨x7, hf1, hk7⟩ := wl hz
      replace hf1 : f_X12_nameHere_b7 h v0 t4 t5 = some x7 := hf1
      unfold f_X12_nameHere_b7 at hf1
      refine r_iload_n C dX12_nameHere_7 rfl ?_
      refine r_aload_n C dX12_nameHere_8 rfl ?_
      obtain ⟨t6, e7, hf1⟩ := ob hf1
      refine r_getI C fk_X12_136 rfl dX12_nameHere_9 e7 ?_
      refine r_icmp_ge (tgt := 33) C dX12_nameHere_12 (by decide) (fun c8 => ?_) (fun c8 => ?_)
      · rw [if_pos c8] at hf1
        obtain rfl := so hf1
        obtain rfl := so (show some t4 = some y3 from hk7)
        refine r_lload_n C dX12_nameHere_33 rfl ?_
        obtain rfl := so hf0
        exact r_lret C dX12_nameHere_34
      · rw [if_neg c8] at hf1
        refine r_lload_n C dX12_nameHere_15 rfl ?_
        refine r_bipush (v := 8) C dX12_nameHere_16 (by decide) ?_
        refine r_lshl C dX12_nameHere_18 ?_
        refine r_aload_n C dX12_nameHere_19 rfl ?_
        refine r_iload_n C dX12_nameHere_20 rfl ?_
        obtain ⟨u10, e9, hf1⟩ := ob hf1
        obtain ⟨t11, e12, hf1⟩ := ob hf1
        refine r_cV (ci := 12) (rest := [.long (t4 <<< (Int32.toInt64 (8 : Int32) &&& 63))]) (st2 := [.int t11, .long (t4 <<< (Int32.toInt64 (8 : Int32) &&& 63))]) C (s_X12_byteAt e12) mk_X12_byteAt rfl (ck_k e9) (by decide) im_X12_byteAt sl_X12_byteAt lk_X12_139 rfl rfl rfl dX12_nameHere_21 (Nat.le_of_ble_eq_true rfl) ⟨Nat.le_of_ble_eq_true rfl, Nat.le_of_ble_eq_true rfl⟩ ⟨Nat.le_of_ble_eq_true rfl, Nat.le_of_ble_eq_true rfl⟩ ?_
        refine r_i2l C dX12_nameHere_24 ?_
        refine r_lor C dX12_nameHere_25 ?_
        obtain ⟨t13, e14, hf1⟩ := ob hf1
        refine r_lstore_n (lv' := [(1, .long t13), (0, .ref v0), (3, .int t5)]) C dX12_nameHere_26 (by decide) e14 rfl ?_
        obtain ⟨t15, e16, hf1⟩ := ob hf1
        refine r_iinc (lv' := [(3, .int t15), (1, .long t13), (0, .ref v0)]) C dX12_nameHere_27 rfl e16 (by decide) rfl ?_
        refine r_goto (tgt := 7) C dX12_nameHere_30 (by decide) ?_
        obtain rfl := so hf1
        refine r_subk [2, 1, 0] (lv' := [(0, .ref v0), (1, .long t13), (3, .int t15)]) rfl ?_
        exact ih7 t13 t15 hk7
  refine r_subk [2, 1, 0] (lv' := [(0, .ref v0), (1, .long (0 : Int64)), (3, .int t1)]) rfl ?_
  exact L7 wN (0 : Int64) t1 hl7
def f_X12_findHere_b2 (h : aH) (v0 : Nat) (v1 : Int32) (v2 : Int32) (v3 : Int32) : Option ((Int32) ⊕ ((Int32) ⊕ (Unit))) := if v2 ≤ v3 then some (.inr (.inr ())) else (gR h 12 v0 2).bind fun t1 => (lJ h t1 (v1 + v3)).bind fun t2 => (ck h 12 v0).bind fun _ => (f_X12_nameHere h v0).bind fun t3 => if (lg_cmp t2 t3) = 0 then some (.inr (.inl v3)) else (some (v3 + (1 : Int32))).bind fun t4 => some (.inl t4)
def f_X12_findHere_l2 (h : aH) (v0 : Nat) (v1 : Int32) (v2 : Int32) (v3 : Int32) : Option ((Int32) ⊕ (Unit)) := whileL wN (fun q : Int32 => f_X12_findHere_b2 h v0 v1 v2 q) v3
def f_X12_findHere (h : aH) (v0 : Nat) (v1 : Int32) (v2 : Int32) : Option (Int32) := (f_X12_findHere_l2 h v0 v1 v2 (0 : Int32)).bind fun e => match e with | .inl t5 => some t5 | .inr _ => some (-1 : Int32)
theorem s_X12_findHere {h : aH} {v0 : Nat} {v1 : Int32} {v2 : Int32} {out : Int32} (hf0 : f_X12_findHere h v0 v1 v2 = some out) : EV 2 yX12_findHere cX12_findHere 4 (some .int) h [.ref v0, .int v1, .int v2] (some (.int out)) h 0 0 := by
  refine EV.of (own := RX12) (lv0 := [(0, .ref v0), (1, .int v1), (2, .int v2)]) (by decide +kernel) rfl rfl (Nat.le_of_ble_eq_true rfl) ?_
  intro p l e s m args below meth c D cA B Hb C hin
  unfold f_X12_findHere at hf0
  refine r_iconst (v := 0) C dX12_findHere_0 (by decide) ?_
  refine r_istore_n (lv' := [(3, .int (0 : Int32)), (0, .ref v0), (1, .int v1), (2, .int v2)]) C dX12_findHere_1 (by decide) rfl rfl ?_
  obtain ⟨y1, hl2, hf0⟩ := ob hf0
  have L2 : ∀ (n : Nat) (t2 : Int32), whileL n (fun q : Int32 => f_X12_findHere_b2 h v0 v1 v2 q) t2 = some y1 → gW p l e (rmO 2 0 0) s m args below meth c (MQ below (eQ D cA B Hb h (some (.int out))) args s 0 0 (fun q => B ≤ q)) D cA B Hb 4 h 2 [(0, .ref v0), (1, .int v1), (2, .int v2), (3, .int t2)] [] 0 0 := by
    intro n
    induction n with
    | zero => intro t2 hz; cases hz
    | succ n ih2 =>
      intro t2 hz
      obtain ⟨x2, hf1, hk2⟩ := wl hz
      replace hf1 : f_X12_findHere_b2 h v0 v1 v2 t2 = some x2 := hf1
      unfold f_X12_findHere_b2 at hf1
      refine r_iload_n C dX12_findHere_2 rfl ?_
      refine r_iload_n C dX12_findHere_3 rfl ?_
      refine r_icmp_ge (tgt := 31) C dX12_findHere_4 (by decide) (fun c3 => ?_) (fun c3 => ?_)
      · rw [if_pos c3] at hf1
        obtain rfl := so hf1
        obtain rfl := so (show some (.inr () : (Int32) ⊕ (Unit)) = some y1 from hk2)
        dsimp only at hf0
        refine r_iconst (v := -1) C dX12_findHere_31 (by decide) ?_
        obtain rfl := so hf0
        exact r_iret C dX12_findHere_32
      · rw [if_neg c3] at hf1
        refine r_aload_n C dX12_findHere_7 rfl ?_
        obtain ⟨t4, e5, hf1⟩ := ob hf1
        refine r_getR C fk_X12_17 rfl dX12_findHere_8 e5 ?_
        refine r_iload_n C dX12_findHere_11 rfl ?_
        refine r_iload_n C dX12_findHere_12 rfl ?_
        refine r_iadd C dX12_findHere_13 ?_
        obtain ⟨t6, e7, hf1⟩ := ob hf1
        refine r_ldJ C dX12_findHere_14 e7 ?_
        refine r_aload_n C dX12_findHere_15 rfl ?_
        obtain ⟨u9, e8, hf1⟩ := ob hf1
        obtain ⟨t10, e11, hf1⟩ := ob hf1
        refine r_cV (ci := 12) (rest := [.long t6]) (st2 := [.long t10, .long t6]) C (s_X12_nameHere e11) mk_X12_nameHere rfl (ck_k e8) (by decide) im_X12_nameHere sl_X12_nameHere lk_X12_193 rfl rfl rfl dX12_findHere_16 (Nat.le_of_ble_eq_true rfl) ⟨Nat.le_of_ble_eq_true rfl, Nat.le_of_ble_eq_true rfl⟩ ⟨Nat.le_of_ble_eq_true rfl, Nat.le_of_ble_eq_true rfl⟩ ?_
        refine r_lcmp C dX12_findHere_19 ?_
        refine r_ifne (tgt := 25) C dX12_findHere_20 (by decide) (fun c12 => ?_) (fun c12 => ?_)
        · rw [if_neg c12] at hf1
          obtain ⟨t13, e14, hf1⟩ := ob hf1
          refine r_iinc (lv' := [(3, .int t13), (0, .ref v0), (1, .int v1), (2, .int v2)]) C dX12_findHere_25 rfl e14 (by decide) rfl ?_
          refine r_goto (tgt := 2) C dX12_findHere_28 (by decide) ?_
          obtain rfl := so hf1
          refine r_subk [1, 2, 3, 0] (lv' := [(0, .ref v0), (1, .int v1), (2, .int v2), (3, .int t13)]) rfl ?_
          exact ih2 t13 hk2
        · rw [if_pos c12] at hf1
          obtain rfl := so hf1
          obtain rfl := so (show some (.inl t2 : (Int32) ⊕ (Unit)) = some y1 from hk2)
          dsimp only at hf0
          refine r_iload_n C dX12_findHere_23 rfl ?_
          obtain rfl := so hf0
          exact r_iret C dX12_findHere_24
  refine r_subk [1, 2, 3, 0] (lv' := [(0, .ref v0), (1, .int v1), (2, .int v2), (3, .int (0 : Int32))]) rfl ?_
  exact L2 wN (0 : Int32) hl2
def f_X12_fault (h : aH) (v0 : Nat) (v1 : Int32) : Option (Int32) := if v1 = 0 then (gI h 12 v0 17).bind fun t2 => some t2 else if v1 = (1 : Int32) then (gI h 12 v0 18).bind fun t1 => some t1 else some (-1 : Int32)
theorem s_X12_fault {h : aH} {v0 : Nat} {v1 : Int32} {out : Int32} (hf0 : f_X12_fault h v0 v1 = some out) : EV 0 yX12_fault cX12_fault 2 (some .int) h [.ref v0, .int v1] (some (.int out)) h 0 0 := by
  refine EV.of (own := RX12) (lv0 := [(0, .ref v0), (1, .int v1)]) (by decide +kernel) rfl rfl (Nat.le_of_ble_eq_true rfl) ?_
  intro p l e s m args below meth c D cA B Hb C hin
  unfold f_X12_fault at hf0
  refine r_iload_n C dX12_fault_0 rfl ?_
  refine r_ifne (tgt := 11) C dX12_fault_1 (by decide) (fun c1 => ?_) (fun c1 => ?_)
  · rw [if_neg c1] at hf0
    refine r_iload_n C dX12_fault_11 rfl ?_
    refine r_iconst (v := 1) C dX12_fault_12 (by decide) ?_
    refine r_icmp_ne (tgt := 23) C dX12_fault_13 (by decide) (fun c2 => ?_) (fun c2 => ?_)
    · rw [if_neg c2] at hf0
      refine r_iconst (v := -1) C dX12_fault_23 (by decide) ?_
      obtain rfl := so hf0
      exact r_iret C dX12_fault_24
    · rw [if_pos c2] at hf0
      refine r_aload_n C dX12_fault_16 rfl ?_
      obtain ⟨t3, e4, hf0⟩ := ob hf0
      refine r_getI C fk_X12_44 rfl dX12_fault_17 e4 ?_
      refine r_goto (tgt := 24) C dX12_fault_20 (by decide) ?_
      obtain rfl := so hf0
      exact r_iret C dX12_fault_24
  · rw [if_pos c1] at hf0
    refine r_aload_n C dX12_fault_4 rfl ?_
    obtain ⟨t5, e6, hf0⟩ := ob hf0
    refine r_getI C fk_X12_40 rfl dX12_fault_5 e6 ?_
    refine r_goto (tgt := 24) C dX12_fault_8 (by decide) ?_
    obtain rfl := so hf0
    exact r_iret C dX12_fault_24
def f_X12_taken (h : aH) (v0 : Nat) (v1 : Int32) : Option (Int32 × aH) := (gI h 12 v0 19).bind fun t1 => (pI h 12 v0 17 t1).bind fun h2 => (gI h2 12 v0 19).bind fun t3 => if t3 ≤ 0 then (ck h2 12 v0).bind fun _ => bd2 (f_X12_gives h2 v0 v1) fun t4 h5 => some (t4, h5) else (ck h2 12 v0).bind fun _ => bd2 (f_X12_refuse h2 v0 (9 : Int32)) fun t6 h7 => some (t6, h7)
theorem s_X12_taken {h : aH} {v0 : Nat} {v1 : Int32} {out : Int32 × aH} (hf0 : f_X12_taken h v0 v1 = some out) : EV 1 yX12_taken cX12_taken 2 (some .int) h [.ref v0, .int v1] (some (.int out.1)) out.2 0 0 := by
  refine EV.of (own := RX12) (lv0 := [(0, .ref v0), (1, .int v1)]) (by decide +kernel) rfl rfl (Nat.le_of_ble_eq_true rfl) ?_
  intro p l e s m args below meth c D cA B Hb C hin
  unfold f_X12_taken at hf0
  refine r_aload_n C dX12_taken_0 rfl ?_
  refine r_aload_n C dX12_taken_1 rfl ?_
  obtain ⟨t1, e2, hf0⟩ := ob hf0
  refine r_getI C fk_X12_174 rfl dX12_taken_2 e2 ?_
  obtain ⟨h3, e4, hf0⟩ := ob hf0
  refine r_putI C fk_X12_40 dX12_taken_5 e4 ?_
  refine r_aload_n C dX12_taken_8 rfl ?_
  obtain ⟨t5, e6, hf0⟩ := ob hf0
  refine r_getI C fk_X12_174 rfl dX12_taken_9 e6 ?_
  refine r_ifle (tgt := 24) C dX12_taken_12 (by decide) (fun c7 => ?_) (fun c7 => ?_)
  · rw [if_pos c7] at hf0
    refine r_aload_n C dX12_taken_24 rfl ?_
    refine r_iload_n C dX12_taken_25 rfl ?_
    obtain ⟨u9, e8, hf0⟩ := ob hf0
    obtain ⟨t10, h11, e12, hf0⟩ := ob2 hf0
    refine r_cV (ci := 12) (rest := []) (st2 := [.int t10]) C (s_X12_gives e12) mk_X12_gives rfl (ck_k e8) (by decide) im_X12_gives sl_X12_gives lk_X12_200 rfl rfl rfl dX12_taken_26 (Nat.le_of_ble_eq_true rfl) ⟨Nat.le_of_ble_eq_true rfl, Nat.le_of_ble_eq_true rfl⟩ ⟨Nat.le_of_ble_eq_true rfl, Nat.le_of_ble_eq_true rfl⟩ ?_
    obtain rfl := so hf0
    exact r_iret C dX12_taken_29
  · rw [if_neg c7] at hf0
    refine r_aload_n C dX12_taken_15 rfl ?_
    refine r_bipush (v := 9) C dX12_taken_16 (by decide) ?_
    obtain ⟨u14, e13, hf0⟩ := ob hf0
    obtain ⟨t15, h16, e17, hf0⟩ := ob2 hf0
    refine r_cV (ci := 12) (rest := []) (st2 := [.int t15]) C (s_X12_refuse e17) mk_X12_refuse rfl (ck_k e13) (by decide) im_X12_refuse sl_X12_refuse lk_X12_197 rfl rfl rfl dX12_taken_18 (Nat.le_of_ble_eq_true rfl) ⟨Nat.le_of_ble_eq_true rfl, Nat.le_of_ble_eq_true rfl⟩ ⟨Nat.le_of_ble_eq_true rfl, Nat.le_of_ble_eq_true rfl⟩ ?_
    refine r_goto (tgt := 29) C dX12_taken_21 (by decide) ?_
    obtain rfl := so hf0
    exact r_iret C dX12_taken_29
def f_X12_isFree (h : aH) (v0 : Nat) : Option (Int32) := (gR h 12 v0 0).bind fun t1 => (lI h t1 (1600 : Int32)).bind fun t2 => (ck h 12 v0).bind fun _ => (f_X12_findHere h v0 (176 : Int32) t2).bind fun t3 => if t3 = (-1 : Int32) then (gR h 12 v0 0).bind fun t4 => (lI h t4 (1601 : Int32)).bind fun t5 => (ck h 12 v0).bind fun _ => (f_X12_findHere h v0 (180 : Int32) t5).bind fun t6 => if t6 = (-1 : Int32) then (gR h 12 v0 0).bind fun t7 => (lI h t7 (1603 : Int32)).bind fun t8 => (ck h 12 v0).bind fun _ => (f_X12_findHere h v0 (204 : Int32) t8).bind fun t9 => if t9 = (-1 : Int32) then (gR h 12 v0 0).bind fun t10 => (lI h t10 (1604 : Int32)).bind fun t11 => (ck h 12 v0).bind fun _ => (f_X12_findHere h v0 (216 : Int32) t11).bind fun t12 => if t12 = (-1 : Int32) then some (1 : Int32) else some (0 : Int32) else some (0 : Int32) else some (0 : Int32) else some (0 : Int32)
theorem s_X12_isFree {h : aH} {v0 : Nat} {out : Int32} (hf0 : f_X12_isFree h v0 = some out) : EV 3 yX12_isFree cX12_isFree 1 (some .boolean) h [.ref v0] (some (.int out)) h 0 0 := by
  refine EV.of (own := RX12) (lv0 := [(0, .ref v0)]) (by decide +kernel) rfl rfl (Nat.le_of_ble_eq_true rfl) ?_
  intro p l e s m args below meth c D cA B Hb C hin
  unfold f_X12_isFree at hf0
  refine r_aload_n C dX12_isFree_0 rfl ?_
  refine r_sipush (v := 176) C dX12_isFree_1 (by decide) ?_
  refine r_aload_n C dX12_isFree_4 rfl ?_
  obtain ⟨t1, e2, hf0⟩ := ob hf0
  refine r_getR C fk_X12_7 rfl dX12_isFree_5 e2 ?_
  refine r_sipush (v := 1600) C dX12_isFree_8 (by decide) ?_
  obtain ⟨t3, e4, hf0⟩ := ob hf0
  refine r_ldI C dX12_isFree_11 e4 ?_
  obtain ⟨u6, e5, hf0⟩ := ob hf0
  obtain ⟨t7, e8, hf0⟩ := ob hf0
  refine r_cV (ci := 12) (rest := []) (st2 := [.int t7]) C (s_X12_findHere e8) mk_X12_findHere rfl (ck_k e5) (by decide) im_X12_findHere sl_X12_findHere lk_X12_203 rfl rfl rfl dX12_isFree_12 (Nat.le_of_ble_eq_true rfl) ⟨Nat.le_of_ble_eq_true rfl, Nat.le_of_ble_eq_true rfl⟩ ⟨Nat.le_of_ble_eq_true rfl, Nat.le_of_ble_eq_true rfl⟩ ?_
  refine r_iconst (v := -1) C dX12_isFree_15 (by decide) ?_
  refine r_icmp_ne (tgt := 80) C dX12_isFree_16 (by decide) (fun c9 => ?_) (fun c9 => ?_)
  · rw [if_neg c9] at hf0
    refine r_iconst (v := 0) C dX12_isFree_80 (by decide) ?_
    obtain rfl := so hf0
    exact r_zret C dX12_isFree_81 (Or.inl rfl)
  · rw [if_pos c9] at hf0
    refine r_aload_n C dX12_isFree_19 rfl ?_
    refine r_sipush (v := 180) C dX12_isFree_20 (by decide) ?_
    refine r_aload_n C dX12_isFree_23 rfl ?_
    obtain ⟨t10, e11, hf0⟩ := ob hf0
    refine r_getR C fk_X12_7 rfl dX12_isFree_24 e11 ?_
    refine r_sipush (v := 1601) C dX12_isFree_27 (by decide) ?_
    obtain ⟨t12, e13, hf0⟩ := ob hf0
    refine r_ldI C dX12_isFree_30 e13 ?_
    obtain ⟨u15, e14, hf0⟩ := ob hf0
    obtain ⟨t16, e17, hf0⟩ := ob hf0
    refine r_cV (ci := 12) (rest := []) (st2 := [.int t16]) C (s_X12_findHere e17) mk_X12_findHere rfl (ck_k e14) (by decide) im_X12_findHere sl_X12_findHere lk_X12_203 rfl rfl rfl dX12_isFree_31 (Nat.le_of_ble_eq_true rfl) ⟨Nat.le_of_ble_eq_true rfl, Nat.le_of_ble_eq_true rfl⟩ ⟨Nat.le_of_ble_eq_true rfl, Nat.le_of_ble_eq_true rfl⟩ ?_
    refine r_iconst (v := -1) C dX12_isFree_34 (by decide) ?_
    refine r_icmp_ne (tgt := 80) C dX12_isFree_35 (by decide) (fun c18 => ?_) (fun c18 => ?_)
    · rw [if_neg c18] at hf0
      refine r_iconst (v := 0) C dX12_isFree_80 (by decide) ?_
      obtain rfl := so hf0
      exact r_zret C dX12_isFree_81 (Or.inl rfl)
    · rw [if_pos c18] at hf0
      refine r_aload_n C dX12_isFree_38 rfl ?_
      refine r_sipush (v := 204) C dX12_isFree_39 (by decide) ?_
      refine r_aload_n C dX12_isFree_42 rfl ?_
      obtain ⟨t19, e20, hf0⟩ := ob hf0
      refine r_getR C fk_X12_7 rfl dX12_isFree_43 e20 ?_
      refine r_sipush (v := 1603) C dX12_isFree_46 (by decide) ?_
      obtain ⟨t21, e22, hf0⟩ := ob hf0
      refine r_ldI C dX12_isFree_49 e22 ?_
      obtain ⟨u24, e23, hf0⟩ := ob hf0
      obtain ⟨t25, e26, hf0⟩ := ob hf0
      refine r_cV (ci := 12) (rest := []) (st2 := [.int t25]) C (s_X12_findHere e26) mk_X12_findHere rfl (ck_k e23) (by decide) im_X12_findHere sl_X12_findHere lk_X12_203 rfl rfl rfl dX12_isFree_50 (Nat.le_of_ble_eq_true rfl) ⟨Nat.le_of_ble_eq_true rfl, Nat.le_of_ble_eq_true rfl⟩ ⟨Nat.le_of_ble_eq_true rfl, Nat.le_of_ble_eq_true rfl⟩ ?_
      refine r_iconst (v := -1) C dX12_isFree_53 (by decide) ?_
      refine r_icmp_ne (tgt := 80) C dX12_isFree_54 (by decide) (fun c27 => ?_) (fun c27 => ?_)
      · rw [if_neg c27] at hf0
        refine r_iconst (v := 0) C dX12_isFree_80 (by decide) ?_
        obtain rfl := so hf0
        exact r_zret C dX12_isFree_81 (Or.inl rfl)
      · rw [if_pos c27] at hf0
        refine r_aload_n C dX12_isFree_57 rfl ?_
        refine r_sipush (v := 216) C dX12_isFree_58 (by decide) ?_
        refine r_aload_n C dX12_isFree_61 rfl ?_
        obtain ⟨t28, e29, hf0⟩ := ob hf0
        refine r_getR C fk_X12_7 rfl dX12_isFree_62 e29 ?_
        refine r_sipush (v := 1604) C dX12_isFree_65 (by decide) ?_
        obtain ⟨t30, e31, hf0⟩ := ob hf0
        refine r_ldI C dX12_isFree_68 e31 ?_
        obtain ⟨u33, e32, hf0⟩ := ob hf0
        obtain ⟨t34, e35, hf0⟩ := ob hf0
        refine r_cV (ci := 12) (rest := []) (st2 := [.int t34]) C (s_X12_findHere e35) mk_X12_findHere rfl (ck_k e32) (by decide) im_X12_findHere sl_X12_findHere lk_X12_203 rfl rfl rfl dX12_isFree_69 (Nat.le_of_ble_eq_true rfl) ⟨Nat.le_of_ble_eq_true rfl, Nat.le_of_ble_eq_true rfl⟩ ⟨Nat.le_of_ble_eq_true rfl, Nat.le_of_ble_eq_true rfl⟩ ?_
        refine r_iconst (v := -1) C dX12_isFree_72 (by decide) ?_
        refine r_icmp_ne (tgt := 80) C dX12_isFree_73 (by decide) (fun c36 => ?_) (fun c36 => ?_)
        · rw [if_neg c36] at hf0
          refine r_iconst (v := 0) C dX12_isFree_80 (by decide) ?_
          obtain rfl := so hf0
          exact r_zret C dX12_isFree_81 (Or.inl rfl)
        · rw [if_pos c36] at hf0
          refine r_iconst (v := 1) C dX12_isFree_76 (by decide) ?_
          refine r_goto (tgt := 81) C dX12_isFree_77 (by decide) ?_
          obtain rfl := so hf0
          exact r_zret C dX12_isFree_81 (Or.inr rfl)
def f_X12_finds_b2 (v0 : Nat) (v1 : Int32) (h : aH) : Option ((Int32 × aH) ⊕ (aH)) := if (4 : Int32) ≤ v1 then some (.inr h) else (gR h 12 v0 1).bind fun t1 => (sJ h t1 ((208 : Int32) + v1) (0 : Int64)).bind fun h2 => (some (v1 + (1 : Int32))).bind fun t3 => some (.inl (t3, h2))
def f_X12_finds_l2 (v0 : Nat) (v1 : Int32) (h : aH) : Option (aH) := whileL wN (fun q : Int32 × aH => f_X12_finds_b2 v0 q.1 q.2) (v1, h)
def f_X12_finds_j141 (h : aH) (v0 : Nat) (v1 : Int32) : Option ((Int32 × aH) ⊕ (aH)) := (some (v1 + (1 : Int32))).bind fun t5 => some (.inl (t5, h))
def f_X12_finds_j102 (h : aH) (v0 : Nat) (v1 : Int32) (v3 : Int32) (v4 : Int32) (s0 : Int32) : Option ((Int32 × Int32) ⊕ (Int32)) := (some (v4 + (1 : Int32))).bind fun t10 => some (.inl (s0, t10))
def f_X12_finds_j101 (h : aH) (v0 : Nat) (v1 : Int32) (v3 : Int32) (v4 : Int32) : Option ((Int32 × Int32) ⊕ (Int32)) := f_X12_finds_j102 h v0 v1 v3 v4 (0 : Int32)
def f_X12_finds_b57 (h : aH) (v0 : Nat) (v1 : Int32) (v3 : Int32) (v2 : Int32) (v4 : Int32) : Option ((Int32 × Int32) ⊕ (Int32)) := if v3 ≤ v4 then some (.inr v2) else if v2 = 0 then f_X12_finds_j101 h v0 v1 v3 v4 else (gR h 12 v0 22).bind fun t11 => (ck h 12 v0).bind fun _ => (f_X12_valueIn h v0 (1600 : Int32) v1 v3).bind fun t12 => (lI h t11 t12).bind fun t13 => (ck h 12 v0).bind fun _ => (f_X12_valueIn h v0 (1600 : Int32) v1 v4).bind fun t14 => if ((t13 >>> (t14 &&& 31)) &&& (1 : Int32)) = 0 then f_X12_finds_j102 h v0 v1 v3 v4 (1 : Int32) else f_X12_finds_j101 h v0 v1 v3 v4
def f_X12_finds_l57 (h : aH) (v0 : Nat) (v1 : Int32) (v3 : Int32) (v2 : Int32) (v4 : Int32) : Option (Int32) := whileL wN (fun q : Int32 × Int32 => f_X12_finds_b57 h v0 v1 v3 q.1 q.2) (v2, v4)
def f_X12_finds_b42 (h : aH) (v0 : Nat) (v1 : Int32) (v2 : Int32) (v3 : Int32) : Option ((Int32 × Int32) ⊕ (Int32)) := (gR h 12 v0 0).bind fun t8 => (lI h t8 (1600 : Int32)).bind fun t9 => if t9 ≤ v3 then some (.inr v2) else (f_X12_finds_l57 h v0 v1 v3 v2 (0 : Int32)).bind fun t15 => (some (v3 + (1 : Int32))).bind fun t16 => some (.inl (t15, t16))
def f_X12_finds_l42 (h : aH) (v0 : Nat) (v1 : Int32) (v2 : Int32) (v3 : Int32) : Option (Int32) := whileL wN (fun q : Int32 × Int32 => f_X12_finds_b42 h v0 v1 q.1 q.2) (v2, v3)
def f_X12_finds_b26 (v0 : Nat) (v1 : Int32) (h : aH) : Option ((Int32 × aH) ⊕ (aH)) := (gR h 12 v0 0).bind fun t6 => (lI h t6 (1602 : Int32)).bind fun t7 => if t7 ≤ v1 then some (.inr h) else (f_X12_finds_l42 h v0 v1 (1 : Int32) (0 : Int32)).bind fun t17 => if t17 = 0 then f_X12_finds_j141 h v0 v1 else (gR h 12 v0 1).bind fun t18 => (nz (64 : Int32)).bind fun _ => (lJ h t18 ((208 : Int32) + (v1 / (64 : Int32)))).bind fun t19 => (nz (64 : Int32)).bind fun _ => (sJ h t18 ((208 : Int32) + (v1 / (64 : Int32))) (t19 ||| ((1 : Int64) <<< (Int32.toInt64 (v1 - v1 / (64 : Int32) * (64 : Int32)) &&& 63)))).bind fun h20 => f_X12_finds_j141 h20 v0 v1
def f_X12_finds_l26 (v0 : Nat) (v1 : Int32) (h : aH) : Option (aH) := whileL wN (fun q : Int32 × aH => f_X12_finds_b26 v0 q.1 q.2) (v1, h)
def f_X12_finds (h : aH) (v0 : Nat) : Option (aH) := (f_X12_finds_l2 v0 (0 : Int32) h).bind fun h4 => (f_X12_finds_l26 v0 (0 : Int32) h4).bind fun h21 => some h21
theorem s_X12_finds {h : aH} {v0 : Nat} {out : aH} (hf0 : f_X12_finds h v0 = some out) : EV 1 yX12_finds cX12_finds 5 none h [.ref v0] none out 0 0 := by
  refine EV.of (own := RX12) (lv0 := [(0, .ref v0)]) (by decide +kernel) rfl rfl (Nat.le_of_ble_eq_true rfl) ?_
  intro p l e s m args below meth c D cA B Hb C hin
  unfold f_X12_finds at hf0
  refine r_iconst (v := 0) C dX12_finds_0 (by decide) ?_
  refine r_istore_n (lv' := [(1, .int (0 : Int32)), (0, .ref v0)]) C dX12_finds_1 (by decide) rfl rfl ?_
  obtain ⟨y1, hl2, hf0⟩ := ob hf0
  have L2 : ∀ (n : Nat) (t2 : Int32) (h3 : aH), whileL n (fun q : Int32 × aH => f_X12_finds_b2 v0 q.1 q.2) (t2, h3) = some y1 → gW p l e (rmO 1 0 0) s m args below meth c (MQ below (eQ D cA B Hb out none) args s 0 0 (fun q => B ≤ q)) D cA B Hb 5 h3 2 [(0, .ref v0), (1, .int t2)] [] 0 0 := by
    intro n
    induction n with
    | zero => intro t2 h3 hz; cases hz
    | succ n ih2 =>
      intro t2 h3 hz
      obtain ⟨x2, hf1, hk2⟩ := wl hz
      replace hf1 : f_X12_finds_b2 v0 t2 h3 = some x2 := hf1
      unfold f_X12_finds_b2 at hf1
      refine r_iload_n C dX12_finds_2 rfl ?_
      refine r_iconst (v := 4) C dX12_finds_3 (by decide) ?_
      refine r_icmp_ge (tgt := 24) C dX12_finds_4 (by decide) (fun c4 => ?_) (fun c4 => ?_)
      · rw [if_pos c4] at hf1
        obtain rfl := so hf1
        obtain rfl := so (show some h3 = some y1 from hk2)
        refine r_iconst (v := 0) C dX12_finds_24 (by decide) ?_
        refine r_istore_n (lv' := [(1, .int (0 : Int32)), (0, .ref v0)]) C dX12_finds_25 (by decide) rfl rfl ?_
        obtain ⟨y5, hl26, hf0⟩ := ob hf0
        have L26 : ∀ (n : Nat) (t6 : Int32) (h7 : aH), whileL n (fun q : Int32 × aH => f_X12_finds_b26 v0 q.1 q.2) (t6, h7) = some y5 → gW p l e (rmO 1 0 0) s m args below meth c (MQ below (eQ D cA B Hb out none) args s 0 0 (fun q => B ≤ q)) D cA B Hb 5 h7 26 [(0, .ref v0), (1, .int t6)] [] 0 0 := by
          intro n
          induction n with
          | zero => intro t6 h7 hz; cases hz
          | succ n ih26 =>
            intro t6 h7 hz
            obtain ⟨x26, hf1, hk26⟩ := wl hz
            replace hf1 : f_X12_finds_b26 v0 t6 h7 = some x26 := hf1
            unfold f_X12_finds_b26 at hf1
            have J141 : ∀ (h8 : aH) (t9 : Int32), f_X12_finds_j141 h8 v0 t9 = some x26 → gW p l e (rmO 1 0 0) s m args below meth c (MQ below (eQ D cA B Hb out none) args s 0 0 (fun q => B ≤ q)) D cA B Hb 5 h8 141 [(0, .ref v0), (1, .int t9)] [] 0 0 := by
              intro h8 t9 hf1
              unfold f_X12_finds_j141 at hf1
              obtain ⟨t10, e11, hf1⟩ := ob hf1
              refine r_iinc (lv' := [(1, .int t10), (0, .ref v0)]) C dX12_finds_141 rfl e11 (by decide) rfl ?_
              refine r_goto (tgt := 26) C dX12_finds_144 (by decide) ?_
              obtain rfl := so hf1
              refine r_subk [1, 0] (lv' := [(0, .ref v0), (1, .int t10)]) rfl ?_
              exact ih26 t10 h8 hk26
            refine r_iload_n C dX12_finds_26 rfl ?_
            refine r_aload_n C dX12_finds_27 rfl ?_
            obtain ⟨t12, e13, hf1⟩ := ob hf1
            refine r_getR C fk_X12_7 rfl dX12_finds_28 e13 ?_
            refine r_sipush (v := 1602) C dX12_finds_31 (by decide) ?_
            obtain ⟨t14, e15, hf1⟩ := ob hf1
            refine r_ldI C dX12_finds_34 e15 ?_
            refine r_icmp_ge (tgt := 147) C dX12_finds_35 (by decide) (fun c16 => ?_) (fun c16 => ?_)
            · rw [if_pos c16] at hf1
              obtain rfl := so hf1
              obtain rfl := so (show some h7 = some y5 from hk26)
              obtain rfl := so hf0
              exact r_vret C dX12_finds_147
            · rw [if_neg c16] at hf1
              refine r_iconst (v := 1) C dX12_finds_38 (by decide) ?_
              refine r_istore_n (lv' := [(2, .int (1 : Int32)), (0, .ref v0), (1, .int t6)]) C dX12_finds_39 (by decide) rfl rfl ?_
              refine r_iconst (v := 0) C dX12_finds_40 (by decide) ?_
              refine r_istore_n (lv' := [(3, .int (0 : Int32)), (2, .int (1 : Int32)), (0, .ref v0), (1, .int t6)]) C dX12_finds_41 (by decide) rfl rfl ?_
              obtain ⟨y17, hl42, hf1⟩ := ob hf1
              have L42 : ∀ (n : Nat) (t18 : Int32) (t19 : Int32), whileL n (fun q : Int32 × Int32 => f_X12_finds_b42 h7 v0 t6 q.1 q.2) (t18, t19) = some y17 → gW p l e (rmO 1 0 0) s m args below meth c (MQ below (eQ D cA B Hb out none) args s 0 0 (fun q => B ≤ q)) D cA B Hb 5 h7 42 [(0, .ref v0), (1, .int t6), (2, .int t18), (3, .int t19)] [] 0 0 := by
                intro n
                induction n with
                | zero => intro t18 t19 hz; cases hz
                | succ n ih42 =>
                  intro t18 t19 hz
                  obtain ⟨x42, hf2, hk42⟩ := wl hz
                  replace hf2 : f_X12_finds_b42 h7 v0 t6 t18 t19 = some x42 := hf2
                  unfold f_X12_finds_b42 at hf2
                  refine r_iload_n C dX12_finds_42 rfl ?_
                  refine r_aload_n C dX12_finds_43 rfl ?_
                  obtain ⟨t20, e21, hf2⟩ := ob hf2
                  refine r_getR C fk_X12_7 rfl dX12_finds_44 e21 ?_
                  refine r_sipush (v := 1600) C dX12_finds_47 (by decide) ?_
                  obtain ⟨t22, e23, hf2⟩ := ob hf2
                  refine r_ldI C dX12_finds_50 e23 ?_
                  refine r_icmp_ge (tgt := 115) C dX12_finds_51 (by decide) (fun c24 => ?_) (fun c24 => ?_)
                  · rw [if_pos c24] at hf2
                    obtain rfl := so hf2
                    obtain rfl := so (show some t18 = some y17 from hk42)
                    refine r_iload_n C dX12_finds_115 rfl ?_
                    refine r_ifeq (tgt := 141) C dX12_finds_116 (by decide) (fun c25 => ?_) (fun c25 => ?_)
                    · rw [if_pos c25] at hf1
                      refine r_subk [0, 1] (lv' := [(0, .ref v0), (1, .int t6)]) rfl ?_
                      exact J141 h7 t6 hf1
                    · rw [if_neg c25] at hf1
                      refine r_aload_n C dX12_finds_119 rfl ?_
                      obtain ⟨t26, e27, hf1⟩ := ob hf1
                      refine r_getR C fk_X12_13 rfl dX12_finds_120 e27 ?_
                      refine r_sipush (v := 208) C dX12_finds_123 (by decide) ?_
                      refine r_iload_n C dX12_finds_126 rfl ?_
                      refine r_bipush (v := 64) C dX12_finds_127 (by decide) ?_
                      obtain ⟨u29, e28, hf1⟩ := ob hf1
                      refine r_idiv C dX12_finds_129 (nz_k e28) ?_
                      refine r_iadd C dX12_finds_130 ?_
                      refine r_dup2 C dX12_finds_131 rfl rfl ?_
                      obtain ⟨t30, e31, hf1⟩ := ob hf1
                      refine r_ldJ C dX12_finds_132 e31 ?_
                      refine r_lconst (v := 1) C dX12_finds_133 (by decide) ?_
                      refine r_iload_n C dX12_finds_134 rfl ?_
                      refine r_bipush (v := 64) C dX12_finds_135 (by decide) ?_
                      obtain ⟨u33, e32, hf1⟩ := ob hf1
                      refine r_irem C dX12_finds_137 (nz_k e32) ?_
                      refine r_lshl C dX12_finds_138 ?_
                      refine r_lor C dX12_finds_139 ?_
                      obtain ⟨h34, e35, hf1⟩ := ob hf1
                      refine r_stJ C dX12_finds_140 e35 ?_
                      refine r_subk [0, 1] (lv' := [(0, .ref v0), (1, .int t6)]) rfl ?_
                      exact J141 h34 t6 hf1
                  · rw [if_neg c24] at hf2
                    refine r_iconst (v := 0) C dX12_finds_54 (by decide) ?_
                    refine r_istore (lv' := [(4, .int (0 : Int32)), (0, .ref v0), (1, .int t6), (2, .int t18), (3, .int t19)]) C dX12_finds_55 (by decide) rfl rfl ?_
                    obtain ⟨y36, hl57, hf2⟩ := ob hf2
                    have L57 : ∀ (n : Nat) (t37 : Int32) (t38 : Int32), whileL n (fun q : Int32 × Int32 => f_X12_finds_b57 h7 v0 t6 t19 q.1 q.2) (t37, t38) = some y36 → gW p l e (rmO 1 0 0) s m args below meth c (MQ below (eQ D cA B Hb out none) args s 0 0 (fun q => B ≤ q)) D cA B Hb 5 h7 57 [(0, .ref v0), (1, .int t6), (2, .int t37), (3, .int t19), (4, .int t38)] [] 0 0 := by
                      intro n
                      induction n with
                      | zero => intro t37 t38 hz; cases hz
                      | succ n ih57 =>
                        intro t37 t38 hz
                        obtain ⟨x57, hf3, hk57⟩ := wl hz
                        replace hf3 : f_X12_finds_b57 h7 v0 t6 t19 t37 t38 = some x57 := hf3
                        unfold f_X12_finds_b57 at hf3
                        have J102 : ∀ (t39 : Int32) (t40 : Int32), f_X12_finds_j102 h7 v0 t6 t19 t39 t40 = some x57 → gW p l e (rmO 1 0 0) s m args below meth c (MQ below (eQ D cA B Hb out none) args s 0 0 (fun q => B ≤ q)) D cA B Hb 5 h7 102 [(0, .ref v0), (1, .int t6), (3, .int t19), (4, .int t39)] [.int t40] 0 0 := by
                          intro t39 t40 hf3
                          unfold f_X12_finds_j102 at hf3
                          refine r_istore_n (lv' := [(2, .int t40), (0, .ref v0), (1, .int t6), (3, .int t19), (4, .int t39)]) C dX12_finds_102 (by decide) rfl rfl ?_
                          obtain ⟨t41, e42, hf3⟩ := ob hf3
                          refine r_iinc (lv' := [(4, .int t41), (2, .int t40), (0, .ref v0), (1, .int t6), (3, .int t19)]) C dX12_finds_103 rfl e42 (by decide) rfl ?_
                          refine r_goto (tgt := 57) C dX12_finds_106 (by decide) ?_
                          obtain rfl := so hf3
                          refine r_subk [2, 3, 1, 4, 0] (lv' := [(0, .ref v0), (1, .int t6), (2, .int t40), (3, .int t19), (4, .int t41)]) rfl ?_
                          exact ih57 t40 t41 hk57
                        have J101 : ∀ (t43 : Int32), f_X12_finds_j101 h7 v0 t6 t19 t43 = some x57 → gW p l e (rmO 1 0 0) s m args below meth c (MQ below (eQ D cA B Hb out none) args s 0 0 (fun q => B ≤ q)) D cA B Hb 5 h7 101 [(0, .ref v0), (1, .int t6), (3, .int t19), (4, .int t43)] [] 0 0 := by
                          intro t43 hf3
                          unfold f_X12_finds_j101 at hf3
                          refine r_iconst (v := 0) C dX12_finds_101 (by decide) ?_
                          exact J102 t43 (0 : Int32) hf3
                        refine r_iload C dX12_finds_57 rfl ?_
                        refine r_iload_n C dX12_finds_59 rfl ?_
                        refine r_icmp_ge (tgt := 109) C dX12_finds_60 (by decide) (fun c44 => ?_) (fun c44 => ?_)
                        · rw [if_pos c44] at hf3
                          obtain rfl := so hf3
                          obtain rfl := so (show some t37 = some y36 from hk57)
                          obtain ⟨t45, e46, hf2⟩ := ob hf2
                          refine r_iinc (lv' := [(3, .int t45), (0, .ref v0), (1, .int t6), (2, .int t37), (4, .int t38)]) C dX12_finds_109 rfl e46 (by decide) rfl ?_
                          refine r_goto (tgt := 42) C dX12_finds_112 (by decide) ?_
                          obtain rfl := so hf2
                          refine r_subk [1, 2, 3, 0] (lv' := [(0, .ref v0), (1, .int t6), (2, .int t37), (3, .int t45)]) rfl ?_
                          exact ih42 t37 t45 hk42
                        · rw [if_neg c44] at hf3
                          refine r_iload_n C dX12_finds_63 rfl ?_
                          refine r_ifeq (tgt := 101) C dX12_finds_64 (by decide) (fun c47 => ?_) (fun c47 => ?_)
                          · rw [if_pos c47] at hf3
                            refine r_subk [0, 1, 3, 4] (lv' := [(0, .ref v0), (1, .int t6), (3, .int t19), (4, .int t38)]) rfl ?_
                            exact J101 t38 hf3
                          · rw [if_neg c47] at hf3
                            refine r_aload_n C dX12_finds_67 rfl ?_
                            obtain ⟨t48, e49, hf3⟩ := ob hf3
                            refine r_getR C fk_X12_47 rfl dX12_finds_68 e49 ?_
                            refine r_aload_n C dX12_finds_71 rfl ?_
                            refine r_sipush (v := 1600) C dX12_finds_72 (by decide) ?_
                            refine r_iload_n C dX12_finds_75 rfl ?_
                            refine r_iload_n C dX12_finds_76 rfl ?_
                            obtain ⟨u51, e50, hf3⟩ := ob hf3
                            obtain ⟨t52, e53, hf3⟩ := ob hf3
                            refine r_cV (ci := 12) (rest := [.ref t48]) (st2 := [.int t52, .ref t48]) C (s_X12_valueIn e53) mk_X12_valueIn rfl (ck_k e50) (by decide) im_X12_valueIn sl_X12_valueIn lk_X12_234 rfl rfl rfl dX12_finds_77 (Nat.le_of_ble_eq_true rfl) ⟨Nat.le_of_ble_eq_true rfl, Nat.le_of_ble_eq_true rfl⟩ ⟨Nat.le_of_ble_eq_true rfl, Nat.le_of_ble_eq_true rfl⟩ ?_
                            obtain ⟨t54, e55, hf3⟩ := ob hf3
                            refine r_ldI C dX12_finds_80 e55 ?_
                            refine r_aload_n C dX12_finds_81 rfl ?_
                            refine r_sipush (v := 1600) C dX12_finds_82 (by decide) ?_
                            refine r_iload_n C dX12_finds_85 rfl ?_
                            refine r_iload C dX12_finds_86 rfl ?_
                            obtain ⟨u57, e56, hf3⟩ := ob hf3
                            obtain ⟨t58, e59, hf3⟩ := ob hf3
                            refine r_cV (ci := 12) (rest := [.int t54]) (st2 := [.int t58, .int t54]) C (s_X12_valueIn e59) mk_X12_valueIn rfl (ck_k e56) (by decide) im_X12_valueIn sl_X12_valueIn lk_X12_234 rfl rfl rfl dX12_finds_88 (Nat.le_of_ble_eq_true rfl) ⟨Nat.le_of_ble_eq_true rfl, Nat.le_of_ble_eq_true rfl⟩ ⟨Nat.le_of_ble_eq_true rfl, Nat.le_of_ble_eq_true rfl⟩ ?_
                            refine r_ishr C dX12_finds_91 ?_
                            refine r_iconst (v := 1) C dX12_finds_92 (by decide) ?_
                            refine r_iand C dX12_finds_93 ?_
                            refine r_ifne (tgt := 101) C dX12_finds_94 (by decide) (fun c60 => ?_) (fun c60 => ?_)
                            · rw [if_neg c60] at hf3
                              refine r_subk [0, 1, 3, 4] (lv' := [(0, .ref v0), (1, .int t6), (3, .int t19), (4, .int t38)]) rfl ?_
                              exact J101 t38 hf3
                            · rw [if_pos c60] at hf3
                              refine r_iconst (v := 1) C dX12_finds_97 (by decide) ?_
                              refine r_goto (tgt := 102) C dX12_finds_98 (by decide) ?_
                              refine r_subk [0, 1, 3, 4] (lv' := [(0, .ref v0), (1, .int t6), (3, .int t19), (4, .int t38)]) rfl ?_
                              exact J102 t38 (1 : Int32) hf3
                    refine r_subk [1, 2, 3, 4, 0] (lv' := [(0, .ref v0), (1, .int t6), (2, .int t18), (3, .int t19), (4, .int (0 : Int32))]) rfl ?_
                    exact L57 wN t18 (0 : Int32) hl57
              refine r_subk [2, 3, 1, 0] (lv' := [(0, .ref v0), (1, .int t6), (2, .int (1 : Int32)), (3, .int (0 : Int32))]) rfl ?_
              exact L42 wN (1 : Int32) (0 : Int32) hl42
        refine r_subk [1, 0] (lv' := [(0, .ref v0), (1, .int (0 : Int32))]) rfl ?_
        exact L26 wN (0 : Int32) h3 hl26
      · rw [if_neg c4] at hf1
        refine r_aload_n C dX12_finds_7 rfl ?_
        obtain ⟨t61, e62, hf1⟩ := ob hf1
        refine r_getR C fk_X12_13 rfl dX12_finds_8 e62 ?_
        refine r_sipush (v := 208) C dX12_finds_11 (by decide) ?_
        refine r_iload_n C dX12_finds_14 rfl ?_
        refine r_iadd C dX12_finds_15 ?_
        refine r_lconst (v := 0) C dX12_finds_16 (by decide) ?_
        obtain ⟨h63, e64, hf1⟩ := ob hf1
        refine r_stJ C dX12_finds_17 e64 ?_
        obtain ⟨t65, e66, hf1⟩ := ob hf1
        refine r_iinc (lv' := [(1, .int t65), (0, .ref v0)]) C dX12_finds_18 rfl e66 (by decide) rfl ?_
        refine r_goto (tgt := 2) C dX12_finds_21 (by decide) ?_
        obtain rfl := so hf1
        refine r_subk [1, 0] (lv' := [(0, .ref v0), (1, .int t65)]) rfl ?_
        exact ih2 t65 h63 hk2
  refine r_subk [1, 0] (lv' := [(0, .ref v0), (1, .int (0 : Int32))]) rfl ?_
  exact L2 wN (0 : Int32) h hl2
def f_X12_isDoing (h : aH) (v0 : Nat) (v1 : Int32) : Option (Int32) := (gI h 12 v0 26).bind fun t1 => if t1 ≤ 0 then some (0 : Int32) else (gR h 12 v0 24).bind fun t2 => (gI h 12 v0 26).bind fun t3 => (lI h t2 (t3 - (1 : Int32))).bind fun t4 => if t4 = v1 then some (1 : Int32) else some (0 : Int32)
theorem s_X12_isDoing {h : aH} {v0 : Nat} {v1 : Int32} {out : Int32} (hf0 : f_X12_isDoing h v0 v1 = some out) : EV 0 yX12_isDoing cX12_isDoing 2 (some .boolean) h [.ref v0, .int v1] (some (.int out)) h 0 0 := by
  refine EV.of (own := RX12) (lv0 := [(0, .ref v0), (1, .int v1)]) (by decide +kernel) rfl rfl (Nat.le_of_ble_eq_true rfl) ?_
  intro p l e s m args below meth c D cA B Hb C hin
  unfold f_X12_isDoing at hf0
  refine r_aload_n C dX12_isDoing_0 rfl ?_
  obtain ⟨t1, e2, hf0⟩ := ob hf0
  refine r_getI C fk_X12_238 rfl dX12_isDoing_1 e2 ?_
  refine r_ifle (tgt := 26) C dX12_isDoing_4 (by decide) (fun c3 => ?_) (fun c3 => ?_)
  · rw [if_pos c3] at hf0
    refine r_iconst (v := 0) C dX12_isDoing_26 (by decide) ?_
    obtain rfl := so hf0
    exact r_zret C dX12_isDoing_27 (Or.inl rfl)
  · rw [if_neg c3] at hf0
    refine r_aload_n C dX12_isDoing_7 rfl ?_
    obtain ⟨t4, e5, hf0⟩ := ob hf0
    refine r_getR C fk_X12_53 rfl dX12_isDoing_8 e5 ?_
    refine r_aload_n C dX12_isDoing_11 rfl ?_
    obtain ⟨t6, e7, hf0⟩ := ob hf0
    refine r_getI C fk_X12_238 rfl dX12_isDoing_12 e7 ?_
    refine r_iconst (v := 1) C dX12_isDoing_15 (by decide) ?_
    refine r_isub C dX12_isDoing_16 ?_
    obtain ⟨t8, e9, hf0⟩ := ob hf0
    refine r_ldI C dX12_isDoing_17 e9 ?_
    refine r_iload_n C dX12_isDoing_18 rfl ?_
    refine r_icmp_ne (tgt := 26) C dX12_isDoing_19 (by decide) (fun c10 => ?_) (fun c10 => ?_)
    · rw [if_neg c10] at hf0
      refine r_iconst (v := 0) C dX12_isDoing_26 (by decide) ?_
      obtain rfl := so hf0
      exact r_zret C dX12_isDoing_27 (Or.inl rfl)
    · rw [if_pos c10] at hf0
      refine r_iconst (v := 1) C dX12_isDoing_22 (by decide) ?_
      refine r_goto (tgt := 27) C dX12_isDoing_23 (by decide) ?_
      obtain rfl := so hf0
      exact r_zret C dX12_isDoing_27 (Or.inr rfl)
def f_X12_does (h : aH) (v0 : Nat) (v1 : Int32) : Option (aH) := (gR h 12 v0 24).bind fun t1 => (gI h 12 v0 26).bind fun t2 => (sI h t1 t2 v1).bind fun h3 => (gI h3 12 v0 26).bind fun t4 => (pI h3 12 v0 26 (t4 + (1 : Int32))).bind fun h5 => some h5
theorem s_X12_does {h : aH} {v0 : Nat} {v1 : Int32} {out : aH} (hf0 : f_X12_does h v0 v1 = some out) : EV 0 yX12_does cX12_does 2 none h [.ref v0, .int v1] none out 0 0 := by
  refine EV.of (own := RX12) (lv0 := [(0, .ref v0), (1, .int v1)]) (by decide +kernel) rfl rfl (Nat.le_of_ble_eq_true rfl) ?_
  intro p l e s m args below meth c D cA B Hb C hin
  unfold f_X12_does at hf0
  refine r_aload_n C dX12_does_0 rfl ?_
  obtain ⟨t1, e2, hf0⟩ := ob hf0
  refine r_getR C fk_X12_53 rfl dX12_does_1 e2 ?_
  refine r_aload_n C dX12_does_4 rfl ?_
  obtain ⟨t3, e4, hf0⟩ := ob hf0
  refine r_getI C fk_X12_238 rfl dX12_does_5 e4 ?_
  refine r_iload_n C dX12_does_8 rfl ?_
  obtain ⟨h5, e6, hf0⟩ := ob hf0
  refine r_stI C dX12_does_9 e6 ?_
  refine r_aload_n C dX12_does_10 rfl ?_
  refine r_dup C dX12_does_11 rfl ?_
  obtain ⟨t7, e8, hf0⟩ := ob hf0
  refine r_getI C fk_X12_238 rfl dX12_does_12 e8 ?_
  refine r_iconst (v := 1) C dX12_does_15 (by decide) ?_
  refine r_iadd C dX12_does_16 ?_
  obtain ⟨h9, e10, hf0⟩ := ob hf0
  refine r_putI C fk_X12_238 dX12_does_17 e10 ?_
  obtain rfl := so hf0
  exact r_vret C dX12_does_20
def f_X12_joins_j97 (h : aH) (v0 : Nat) (v1 : Int32) (s0 : Nat) (s1 : Int32) (s2 : Int64) : Option ((Int32 × aH) ⊕ (aH)) := (sJ h s0 s1 s2).bind fun h5 => (some (v1 + (1 : Int32))).bind fun t6 => some (.inl (t6, h5))
def f_X12_joins_b22 (v0 : Nat) (v1 : Int32) (h : aH) : Option ((Int32 × aH) ⊕ (aH)) := if (4 : Int32) ≤ v1 then some (.inr h) else (gR h 12 v0 23).bind fun t7 => (gI h 12 v0 25).bind fun t8 => (lJ h t7 ((((4 : Int32) * t8) - (4 : Int32)) + v1)).bind fun t9 => (gR h 12 v0 23).bind fun t10 => (gI h 12 v0 25).bind fun t11 => (lJ h t10 (((4 : Int32) * t11) + v1)).bind fun t12 => (gR h 12 v0 23).bind fun t13 => (gI h 12 v0 25).bind fun t14 => (gR h 12 v0 24).bind fun t15 => (gI h 12 v0 26).bind fun t16 => (lI h t15 t16).bind fun t17 => if t17 = (11 : Int32) then f_X12_joins_j97 h v0 v1 t13 ((((4 : Int32) * t14) - (4 : Int32)) + v1) (t9 &&& t12) else f_X12_joins_j97 h v0 v1 t13 ((((4 : Int32) * t14) - (4 : Int32)) + v1) (t9 ||| t12)
def f_X12_joins_l22 (v0 : Nat) (v1 : Int32) (h : aH) : Option (aH) := whileL wN (fun q : Int32 × aH => f_X12_joins_b22 v0 q.1 q.2) (v1, h)
def f_X12_joins (h : aH) (v0 : Nat) : Option (aH) := (gI h 12 v0 26).bind fun t1 => (pI h 12 v0 26 (t1 - (1 : Int32))).bind fun h2 => (gI h2 12 v0 25).bind fun t3 => (pI h2 12 v0 25 (t3 - (1 : Int32))).bind fun h4 => (f_X12_joins_l22 v0 (0 : Int32) h4).bind fun h18 => some h18
theorem s_X12_joins {h : aH} {v0 : Nat} {out : aH} (hf0 : f_X12_joins h v0 = some out) : EV 0 yX12_joins cX12_joins 6 none h [.ref v0] none out 0 0 := by
  refine EV.of (own := RX12) (lv0 := [(0, .ref v0)]) (by decide +kernel) rfl rfl (Nat.le_of_ble_eq_true rfl) ?_
  intro p l e s m args below meth c D cA B Hb C hin
  unfold f_X12_joins at hf0
  refine r_aload_n C dX12_joins_0 rfl ?_
  refine r_dup C dX12_joins_1 rfl ?_
  obtain ⟨t1, e2, hf0⟩ := ob hf0
  refine r_getI C fk_X12_238 rfl dX12_joins_2 e2 ?_
  refine r_iconst (v := 1) C dX12_joins_5 (by decide) ?_
  refine r_isub C dX12_joins_6 ?_
  obtain ⟨h3, e4, hf0⟩ := ob hf0
  refine r_putI C fk_X12_238 dX12_joins_7 e4 ?_
  refine r_aload_n C dX12_joins_10 rfl ?_
  refine r_dup C dX12_joins_11 rfl ?_
  obtain ⟨t5, e6, hf0⟩ := ob hf0
  refine r_getI C fk_X12_241 rfl dX12_joins_12 e6 ?_
  refine r_iconst (v := 1) C dX12_joins_15 (by decide) ?_
  refine r_isub C dX12_joins_16 ?_
  obtain ⟨h7, e8, hf0⟩ := ob hf0
  refine r_putI C fk_X12_241 dX12_joins_17 e8 ?_
  refine r_iconst (v := 0) C dX12_joins_20 (by decide) ?_
  refine r_istore_n (lv' := [(1, .int (0 : Int32)), (0, .ref v0)]) C dX12_joins_21 (by decide) rfl rfl ?_
  obtain ⟨y9, hl22, hf0⟩ := ob hf0
  have L22 : ∀ (n : Nat) (t10 : Int32) (h11 : aH), whileL n (fun q : Int32 × aH => f_X12_joins_b22 v0 q.1 q.2) (t10, h11) = some y9 → gW p l e (rmO 0 0 0) s m args below meth c (MQ below (eQ D cA B Hb out none) args s 0 0 (fun q => B ≤ q)) D cA B Hb 6 h11 22 [(0, .ref v0), (1, .int t10)] [] 0 0 := by
    intro n
    induction n with
    | zero => intro t10 h11 hz; cases hz
    | succ n ih22 =>
      intro t10 h11 hz
      obtain ⟨x22, hf1, hk22⟩ := wl hz
      replace hf1 : f_X12_joins_b22 v0 t10 h11 = some x22 := hf1
      unfold f_X12_joins_b22 at hf1
      have J97 : ∀ (h12 : aH) (t13 : Int32) (t14 : Nat) (t15 : Int32) (t16 : Int64), f_X12_joins_j97 h12 v0 t13 t14 t15 t16 = some x22 → gW p l e (rmO 0 0 0) s m args below meth c (MQ below (eQ D cA B Hb out none) args s 0 0 (fun q => B ≤ q)) D cA B Hb 6 h12 97 [(0, .ref v0), (1, .int t13)] [.long t16, .int t15, .ref t14] 0 0 := by
        intro h12 t13 t14 t15 t16 hf1
        unfold f_X12_joins_j97 at hf1
        obtain ⟨h17, e18, hf1⟩ := ob hf1
        refine r_stJ C dX12_joins_97 e18 ?_
        obtain ⟨t19, e20, hf1⟩ := ob hf1
        refine r_iinc (lv' := [(1, .int t19), (0, .ref v0)]) C dX12_joins_98 rfl e20 (by decide) rfl ?_
        refine r_goto (tgt := 22) C dX12_joins_101 (by decide) ?_
        obtain rfl := so hf1
        refine r_subk [1, 0] (lv' := [(0, .ref v0), (1, .int t19)]) rfl ?_
        exact ih22 t19 h17 hk22
      refine r_iload_n C dX12_joins_22 rfl ?_
      refine r_iconst (v := 4) C dX12_joins_23 (by decide) ?_
      refine r_icmp_ge (tgt := 104) C dX12_joins_24 (by decide) (fun c21 => ?_) (fun c21 => ?_)
      · rw [if_pos c21] at hf1
        obtain rfl := so hf1
        obtain rfl := so (show some h11 = some y9 from hk22)
        obtain rfl := so hf0
        exact r_vret C dX12_joins_104
      · rw [if_neg c21] at hf1
        refine r_aload_n C dX12_joins_27 rfl ?_
        obtain ⟨t22, e23, hf1⟩ := ob hf1
        refine r_getR C fk_X12_50 rfl dX12_joins_28 e23 ?_
        refine r_iconst (v := 4) C dX12_joins_31 (by decide) ?_
        refine r_aload_n C dX12_joins_32 rfl ?_
        obtain ⟨t24, e25, hf1⟩ := ob hf1
        refine r_getI C fk_X12_241 rfl dX12_joins_33 e25 ?_
        refine r_imul C dX12_joins_36 ?_
        refine r_iconst (v := 4) C dX12_joins_37 (by decide) ?_
        refine r_isub C dX12_joins_38 ?_
        refine r_iload_n C dX12_joins_39 rfl ?_
        refine r_iadd C dX12_joins_40 ?_
        obtain ⟨t26, e27, hf1⟩ := ob hf1
        refine r_ldJ C dX12_joins_41 e27 ?_
        refine r_lstore_n (lv' := [(2, .long t26), (0, .ref v0), (1, .int t10)]) C dX12_joins_42 (by decide) rfl rfl ?_
        refine r_aload_n C dX12_joins_43 rfl ?_
        obtain ⟨t28, e29, hf1⟩ := ob hf1
        refine r_getR C fk_X12_50 rfl dX12_joins_44 e29 ?_
        refine r_iconst (v := 4) C dX12_joins_47 (by decide) ?_
        refine r_aload_n C dX12_joins_48 rfl ?_
        obtain ⟨t30, e31, hf1⟩ := ob hf1
        refine r_getI C fk_X12_241 rfl dX12_joins_49 e31 ?_
        refine r_imul C dX12_joins_52 ?_
        refine r_iload_n C dX12_joins_53 rfl ?_
        refine r_iadd C dX12_joins_54 ?_
        obtain ⟨t32, e33, hf1⟩ := ob hf1
        refine r_ldJ C dX12_joins_55 e33 ?_
        refine r_lstore (lv' := [(4, .long t32), (2, .long t26), (0, .ref v0), (1, .int t10)]) C dX12_joins_56 (by decide) rfl rfl ?_
        refine r_aload_n C dX12_joins_58 rfl ?_
        obtain ⟨t34, e35, hf1⟩ := ob hf1
        refine r_getR C fk_X12_50 rfl dX12_joins_59 e35 ?_
        refine r_iconst (v := 4) C dX12_joins_62 (by decide) ?_
        refine r_aload_n C dX12_joins_63 rfl ?_
        obtain ⟨t36, e37, hf1⟩ := ob hf1
        refine r_getI C fk_X12_241 rfl dX12_joins_64 e37 ?_
        refine r_imul C dX12_joins_67 ?_
        refine r_iconst (v := 4) C dX12_joins_68 (by decide) ?_
        refine r_isub C dX12_joins_69 ?_
        refine r_iload_n C dX12_joins_70 rfl ?_
        refine r_iadd C dX12_joins_71 ?_
        refine r_aload_n C dX12_joins_72 rfl ?_
        obtain ⟨t38, e39, hf1⟩ := ob hf1
        refine r_getR C fk_X12_53 rfl dX12_joins_73 e39 ?_
        refine r_aload_n C dX12_joins_76 rfl ?_
        obtain ⟨t40, e41, hf1⟩ := ob hf1
        refine r_getI C fk_X12_238 rfl dX12_joins_77 e41 ?_
        obtain ⟨t42, e43, hf1⟩ := ob hf1
        refine r_ldI C dX12_joins_80 e43 ?_
        refine r_bipush (v := 11) C dX12_joins_81 (by decide) ?_
        refine r_icmp_ne (tgt := 93) C dX12_joins_83 (by decide) (fun c44 => ?_) (fun c44 => ?_)
        · rw [if_neg c44] at hf1
          refine r_lload_n C dX12_joins_93 rfl ?_
          refine r_lload C dX12_joins_94 rfl ?_
          refine r_lor C dX12_joins_96 ?_
          refine r_subk [2, 3] (lv' := [(0, .ref v0), (1, .int t10)]) rfl ?_
          exact J97 h11 t10 t34 ((((4 : Int32) * t36) - (4 : Int32)) + t10) (t26 ||| t32) hf1
        · rw [if_pos c44] at hf1
          refine r_lload_n C dX12_joins_86 rfl ?_
          refine r_lload C dX12_joins_87 rfl ?_
          refine r_land C dX12_joins_89 ?_
          refine r_goto (tgt := 97) C dX12_joins_90 (by decide) ?_
          refine r_subk [2, 3] (lv' := [(0, .ref v0), (1, .int t10)]) rfl ?_
          exact J97 h11 t10 t34 ((((4 : Int32) * t36) - (4 : Int32)) + t10) (t26 &&& t32) hf1
  refine r_subk [1, 0] (lv' := [(0, .ref v0), (1, .int (0 : Int32))]) rfl ?_
  exact L22 wN (0 : Int32) h7 hl22
def f_X12_turnsRound_b31 (v0 : Nat) (v1 : Int32) (h : aH) : Option ((Int32 × aH) ⊕ (aH)) := if (4 : Int32) ≤ v1 then some (.inr h) else (gR h 12 v0 23).bind fun t6 => (gI h 12 v0 25).bind fun t7 => (gR h 12 v0 23).bind fun t8 => (gI h 12 v0 25).bind fun t9 => (lJ h t8 ((((4 : Int32) * t9) - (4 : Int32)) + v1)).bind fun t10 => (sJ h t6 ((((4 : Int32) * t7) - (4 : Int32)) + v1) (t10 ^^^ (-1 : Int64))).bind fun h11 => (some (v1 + (1 : Int32))).bind fun t12 => some (.inl (t12, h11))
def f_X12_turnsRound_l31 (v0 : Nat) (v1 : Int32) (h : aH) : Option (aH) := whileL wN (fun q : Int32 × aH => f_X12_turnsRound_b31 v0 q.1 q.2) (v1, h)
def f_X12_turnsRound_b0 (v0 : Nat) (h : aH) : Option ((aH) ⊕ (aH)) := (ck h 12 v0).bind fun _ => (f_X12_isDoing h v0 (12 : Int32)).bind fun t1 => if t1 = 0 then some (.inr h) else (gI h 12 v0 26).bind fun t2 => (pI h 12 v0 26 (t2 - (1 : Int32))).bind fun h3 => (gI h3 12 v0 27).bind fun t4 => (pI h3 12 v0 27 (t4 - (1 : Int32))).bind fun h5 => (f_X12_turnsRound_l31 v0 (0 : Int32) h5).bind fun h13 => some (.inl h13)
def f_X12_turnsRound_l0 (v0 : Nat) (h : aH) : Option (aH) := whileL wN (fun q : aH => f_X12_turnsRound_b0 v0 q) h
def f_X12_turnsRound (h : aH) (v0 : Nat) : Option (aH) := (f_X12_turnsRound_l0 v0 h).bind fun h14 => some h14
theorem s_X12_turnsRound {h : aH} {v0 : Nat} {out : aH} (hf0 : f_X12_turnsRound h v0 = some out) : EV 1 yX12_turnsRound cX12_turnsRound 2 none h [.ref v0] none out 0 0 := by
  refine EV.of (own := RX12) (lv0 := [(0, .ref v0)]) (by decide +kernel) rfl rfl (Nat.le_of_ble_eq_true rfl) ?_
  intro p l e s m args below meth c D cA B Hb C hin
  unfold f_X12_turnsRound at hf0
  obtain ⟨y1, hl0, hf0⟩ := ob hf0
  have L0 : ∀ (n : Nat) (h2 : aH), whileL n (fun q : aH => f_X12_turnsRound_b0 v0 q) h2 = some y1 → gW p l e (rmO 1 0 0) s m args below meth c (MQ below (eQ D cA B Hb out none) args s 0 0 (fun q => B ≤ q)) D cA B Hb 2 h2 0 [(0, .ref v0)] [] 0 0 := by
    intro n
    induction n with
    | zero => intro h2 hz; cases hz
    | succ n ih0 =>
      intro h2 hz
      obtain ⟨x0, hf1, hk0⟩ := wl hz
      replace hf1 : f_X12_turnsRound_b0 v0 h2 = some x0 := hf1
      unfold f_X12_turnsRound_b0 at hf1
      refine r_aload_n C dX12_turnsRound_0 rfl ?_
      refine r_bipush (v := 12) C dX12_turnsRound_1 (by decide) ?_
      obtain ⟨u4, e3, hf1⟩ := ob hf1
      obtain ⟨t5, e6, hf1⟩ := ob hf1
      refine r_cV (ci := 12) (rest := []) (st2 := [.int t5]) C (s_X12_isDoing e6) mk_X12_isDoing rfl (ck_k e3) (by decide) im_X12_isDoing sl_X12_isDoing lk_X12_244 rfl rfl rfl dX12_turnsRound_3 (Nat.le_of_ble_eq_true rfl) ⟨Nat.le_of_ble_eq_true rfl, Nat.le_of_ble_eq_true rfl⟩ ⟨Nat.le_of_ble_eq_true rfl, Nat.le_of_ble_eq_true rfl⟩ ?_
      refine r_ifeq (tgt := 79) C dX12_turnsRound_6 (by decide) (fun c7 => ?_) (fun c7 => ?_)
      · rw [if_pos c7] at hf1
        obtain rfl := so hf1
        obtain rfl := so (show some h2 = some y1 from hk0)
        obtain rfl := so hf0
        exact r_vret C dX12_turnsRound_79
      · rw [if_neg c7] at hf1
        refine r_aload_n C dX12_turnsRound_9 rfl ?_
        refine r_dup C dX12_turnsRound_10 rfl ?_
        obtain ⟨t8, e9, hf1⟩ := ob hf1
        refine r_getI C fk_X12_238 rfl dX12_turnsRound_11 e9 ?_
        refine r_iconst (v := 1) C dX12_turnsRound_14 (by decide) ?_
        refine r_isub C dX12_turnsRound_15 ?_
        obtain ⟨h10, e11, hf1⟩ := ob hf1
        refine r_putI C fk_X12_238 dX12_turnsRound_16 e11 ?_
        refine r_aload_n C dX12_turnsRound_19 rfl ?_
        refine r_dup C dX12_turnsRound_20 rfl ?_
        obtain ⟨t12, e13, hf1⟩ := ob hf1
        refine r_getI C fk_X12_247 rfl dX12_turnsRound_21 e13 ?_
        refine r_iconst (v := 1) C dX12_turnsRound_24 (by decide) ?_
        refine r_isub C dX12_turnsRound_25 ?_
        obtain ⟨h14, e15, hf1⟩ := ob hf1
        refine r_putI C fk_X12_247 dX12_turnsRound_26 e15 ?_
        refine r_iconst (v := 0) C dX12_turnsRound_29 (by decide) ?_
        refine r_istore_n (lv' := [(1, .int (0 : Int32)), (0, .ref v0)]) C dX12_turnsRound_30 (by decide) rfl rfl ?_
        obtain ⟨y16, hl31, hf1⟩ := ob hf1
        have L31 : ∀ (n : Nat) (t17 : Int32) (h18 : aH), whileL n (fun q : Int32 × aH => f_X12_turnsRound_b31 v0 q.1 q.2) (t17, h18) = some y16 → gW p l e (rmO 1 0 0) s m args below meth c (MQ below (eQ D cA B Hb out none) args s 0 0 (fun q => B ≤ q)) D cA B Hb 2 h18 31 [(0, .ref v0), (1, .int t17)] [] 0 0 := by
          intro n
          induction n with
          | zero => intro t17 h18 hz; cases hz
          | succ n ih31 =>
            intro t17 h18 hz
            obtain ⟨x31, hf2, hk31⟩ := wl hz
            replace hf2 : f_X12_turnsRound_b31 v0 t17 h18 = some x31 := hf2
            unfold f_X12_turnsRound_b31 at hf2
            refine r_iload_n C dX12_turnsRound_31 rfl ?_
            refine r_iconst (v := 4) C dX12_turnsRound_32 (by decide) ?_
            refine r_icmp_ge (tgt := 76) C dX12_turnsRound_33 (by decide) (fun c19 => ?_) (fun c19 => ?_)
            · rw [if_pos c19] at hf2
              obtain rfl := so hf2
              obtain rfl := so (show some h18 = some y16 from hk31)
              refine r_goto (tgt := 0) C dX12_turnsRound_76 (by decide) ?_
              obtain rfl := so hf1
              refine r_subk [0] (lv' := [(0, .ref v0)]) rfl ?_
              exact ih0 h18 hk0
            · rw [if_neg c19] at hf2
              refine r_aload_n C dX12_turnsRound_36 rfl ?_
              obtain ⟨t20, e21, hf2⟩ := ob hf2
              refine r_getR C fk_X12_50 rfl dX12_turnsRound_37 e21 ?_
              refine r_iconst (v := 4) C dX12_turnsRound_40 (by decide) ?_
              refine r_aload_n C dX12_turnsRound_41 rfl ?_
              obtain ⟨t22, e23, hf2⟩ := ob hf2
              refine r_getI C fk_X12_241 rfl dX12_turnsRound_42 e23 ?_
              refine r_imul C dX12_turnsRound_45 ?_
              refine r_iconst (v := 4) C dX12_turnsRound_46 (by decide) ?_
              refine r_isub C dX12_turnsRound_47 ?_
              refine r_iload_n C dX12_turnsRound_48 rfl ?_
              refine r_iadd C dX12_turnsRound_49 ?_
              refine r_aload_n C dX12_turnsRound_50 rfl ?_
              obtain ⟨t24, e25, hf2⟩ := ob hf2
              refine r_getR C fk_X12_50 rfl dX12_turnsRound_51 e25 ?_
              refine r_iconst (v := 4) C dX12_turnsRound_54 (by decide) ?_
              refine r_aload_n C dX12_turnsRound_55 rfl ?_
              obtain ⟨t26, e27, hf2⟩ := ob hf2
              refine r_getI C fk_X12_241 rfl dX12_turnsRound_56 e27 ?_
              refine r_imul C dX12_turnsRound_59 ?_
              refine r_iconst (v := 4) C dX12_turnsRound_60 (by decide) ?_
              refine r_isub C dX12_turnsRound_61 ?_
              refine r_iload_n C dX12_turnsRound_62 rfl ?_
              refine r_iadd C dX12_turnsRound_63 ?_
              obtain ⟨t28, e29, hf2⟩ := ob hf2
              refine r_ldJ C dX12_turnsRound_64 e29 ?_
              refine r_ldc2 (v := -1) C dX12_turnsRound_65 cl_X12_124 ?_
              refine r_lxor C dX12_turnsRound_68 ?_
              obtain ⟨h30, e31, hf2⟩ := ob hf2
              refine r_stJ C dX12_turnsRound_69 e31 ?_
              obtain ⟨t32, e33, hf2⟩ := ob hf2
              refine r_iinc (lv' := [(1, .int t32), (0, .ref v0)]) C dX12_turnsRound_70 rfl e33 (by decide) rfl ?_
              refine r_goto (tgt := 31) C dX12_turnsRound_73 (by decide) ?_
              obtain rfl := so hf2
              refine r_subk [1, 0] (lv' := [(0, .ref v0), (1, .int t32)]) rfl ?_
              exact ih31 t32 h30 hk31
        refine r_subk [1, 0] (lv' := [(0, .ref v0), (1, .int (0 : Int32))]) rfl ?_
        exact L31 wN (0 : Int32) h14 hl31
  exact L0 wN h hl0
def f_X12_pushes_b2 (v0 : Nat) (v1 : Int32) (v2 : Int32) (h : aH) : Option ((Int32 × aH) ⊕ (aH)) := if (4 : Int32) ≤ v2 then some (.inr h) else (gR h 12 v0 23).bind fun t1 => (gI h 12 v0 25).bind fun t2 => (sJ h t1 (((4 : Int32) * t2) + v2) (0 : Int64)).bind fun h3 => (some (v2 + (1 : Int32))).bind fun t4 => some (.inl (t4, h3))
def f_X12_pushes_l2 (v0 : Nat) (v1 : Int32) (v2 : Int32) (h : aH) : Option (aH) := whileL wN (fun q : Int32 × aH => f_X12_pushes_b2 v0 v1 q.1 q.2) (v2, h)
def f_X12_pushes_j88 (h : aH) (v0 : Nat) (v1 : Int32) (v2 : Int32) : Option ((Int32 × aH) ⊕ (aH)) := (some (v2 + (1 : Int32))).bind fun t6 => some (.inl (t6, h))
def f_X12_pushes_b29 (v0 : Nat) (v1 : Int32) (v2 : Int32) (h : aH) : Option ((Int32 × aH) ⊕ (aH)) := (gR h 12 v0 0).bind fun t7 => (lI h t7 (1602 : Int32)).bind fun t8 => if t8 ≤ v2 then some (.inr h) else (gR h 12 v0 0).bind fun t9 => (lI h t9 ((1608 : Int32) + v1)).bind fun t10 => (ck h 12 v0).bind fun _ => (f_X12_valueIn h v0 (1600 : Int32) v2 t10).bind fun t11 => if t11 = v1 then (gR h 12 v0 23).bind fun t12 => (gI h 12 v0 25).bind fun t13 => (nz (64 : Int32)).bind fun _ => (lJ h t12 (((4 : Int32) * t13) + (v2 / (64 : Int32)))).bind fun t14 => (nz (64 : Int32)).bind fun _ => (sJ h t12 (((4 : Int32) * t13) + (v2 / (64 : Int32))) (t14 ||| ((1 : Int64) <<< (Int32.toInt64 (v2 - v2 / (64 : Int32) * (64 : Int32)) &&& 63)))).bind fun h15 => f_X12_pushes_j88 h15 v0 v1 v2 else f_X12_pushes_j88 h v0 v1 v2
def f_X12_pushes_l29 (v0 : Nat) (v1 : Int32) (v2 : Int32) (h : aH) : Option (aH) := whileL wN (fun q : Int32 × aH => f_X12_pushes_b29 v0 v1 q.1 q.2) (v2, h)
def f_X12_pushes (h : aH) (v0 : Nat) (v1 : Int32) : Option (aH) := (f_X12_pushes_l2 v0 v1 (0 : Int32) h).bind fun h5 => (f_X12_pushes_l29 v0 v1 (0 : Int32) h5).bind fun h16 => (gI h16 12 v0 25).bind fun t17 => (pI h16 12 v0 25 (t17 + (1 : Int32))).bind fun h18 => some h18
theorem s_X12_pushes {h : aH} {v0 : Nat} {v1 : Int32} {out : aH} (hf0 : f_X12_pushes h v0 v1 = some out) : EV 1 yX12_pushes cX12_pushes 3 none h [.ref v0, .int v1] none out 0 0 := by
  refine EV.of (own := RX12) (lv0 := [(0, .ref v0), (1, .int v1)]) (by decide +kernel) rfl rfl (Nat.le_of_ble_eq_true rfl) ?_
  intro p l e s m args below meth c D cA B Hb C hin
  unfold f_X12_pushes at hf0
  refine r_iconst (v := 0) C dX12_pushes_0 (by decide) ?_
  refine r_istore_n (lv' := [(2, .int (0 : Int32)), (0, .ref v0), (1, .int v1)]) C dX12_pushes_1 (by decide) rfl rfl ?_
  obtain ⟨y1, hl2, hf0⟩ := ob hf0
  have L2 : ∀ (n : Nat) (t2 : Int32) (h3 : aH), whileL n (fun q : Int32 × aH => f_X12_pushes_b2 v0 v1 q.1 q.2) (t2, h3) = some y1 → gW p l e (rmO 1 0 0) s m args below meth c (MQ below (eQ D cA B Hb out none) args s 0 0 (fun q => B ≤ q)) D cA B Hb 3 h3 2 [(0, .ref v0), (1, .int v1), (2, .int t2)] [] 0 0 := by
    intro n
    induction n with
    | zero => intro t2 h3 hz; cases hz
    | succ n ih2 =>
      intro t2 h3 hz
      obtain ⟨x2, hf1, hk2⟩ := wl hz
      replace hf1 : f_X12_pushes_b2 v0 v1 t2 h3 = some x2 := hf1
      unfold f_X12_pushes_b2 at hf1
      refine r_iload_n C dX12_pushes_2 rfl ?_
      refine r_iconst (v := 4) C dX12_pushes_3 (by decide) ?_
      refine r_icmp_ge (tgt := 27) C dX12_pushes_4 (by decide) (fun c4 => ?_) (fun c4 => ?_)
      · rw [if_pos c4] at hf1
        obtain rfl := so hf1
        obtain rfl := so (show some h3 = some y1 from hk2)
        refine r_iconst (v := 0) C dX12_pushes_27 (by decide) ?_
        refine r_istore_n (lv' := [(2, .int (0 : Int32)), (0, .ref v0), (1, .int v1)]) C dX12_pushes_28 (by decide) rfl rfl ?_
        obtain ⟨y5, hl29, hf0⟩ := ob hf0
        have L29 : ∀ (n : Nat) (t6 : Int32) (h7 : aH), whileL n (fun q : Int32 × aH => f_X12_pushes_b29 v0 v1 q.1 q.2) (t6, h7) = some y5 → gW p l e (rmO 1 0 0) s m args below meth c (MQ below (eQ D cA B Hb out none) args s 0 0 (fun q => B ≤ q)) D cA B Hb 3 h7 29 [(0, .ref v0), (1, .int v1), (2, .int t6)] [] 0 0 := by
          intro n
          induction n with
          | zero => intro t6 h7 hz; cases hz
          | succ n ih29 =>
            intro t6 h7 hz
            obtain ⟨x29, hf1, hk29⟩ := wl hz
            replace hf1 : f_X12_pushes_b29 v0 v1 t6 h7 = some x29 := hf1
            unfold f_X12_pushes_b29 at hf1
            have J88 : ∀ (h8 : aH) (t9 : Int32), f_X12_pushes_j88 h8 v0 v1 t9 = some x29 → gW p l e (rmO 1 0 0) s m args below meth c (MQ below (eQ D cA B Hb out none) args s 0 0 (fun q => B ≤ q)) D cA B Hb 3 h8 88 [(0, .ref v0), (1, .int v1), (2, .int t9)] [] 0 0 := by
              intro h8 t9 hf1
              unfold f_X12_pushes_j88 at hf1
              obtain ⟨t10, e11, hf1⟩ := ob hf1
              refine r_iinc (lv' := [(2, .int t10), (0, .ref v0), (1, .int v1)]) C dX12_pushes_88 rfl e11 (by decide) rfl ?_
              refine r_goto (tgt := 29) C dX12_pushes_91 (by decide) ?_
              obtain rfl := so hf1
              refine r_subk [1, 2, 0] (lv' := [(0, .ref v0), (1, .int v1), (2, .int t10)]) rfl ?_
              exact ih29 t10 h8 hk29
            refine r_iload_n C dX12_pushes_29 rfl ?_
            refine r_aload_n C dX12_pushes_30 rfl ?_
            obtain ⟨t12, e13, hf1⟩ := ob hf1
            refine r_getR C fk_X12_7 rfl dX12_pushes_31 e13 ?_
            refine r_sipush (v := 1602) C dX12_pushes_34 (by decide) ?_
            obtain ⟨t14, e15, hf1⟩ := ob hf1
            refine r_ldI C dX12_pushes_37 e15 ?_
            refine r_icmp_ge (tgt := 94) C dX12_pushes_38 (by decide) (fun c16 => ?_) (fun c16 => ?_)
            · rw [if_pos c16] at hf1
              obtain rfl := so hf1
              obtain rfl := so (show some h7 = some y5 from hk29)
              refine r_aload_n C dX12_pushes_94 rfl ?_
              refine r_dup C dX12_pushes_95 rfl ?_
              obtain ⟨t17, e18, hf0⟩ := ob hf0
              refine r_getI C fk_X12_241 rfl dX12_pushes_96 e18 ?_
              refine r_iconst (v := 1) C dX12_pushes_99 (by decide) ?_
              refine r_iadd C dX12_pushes_100 ?_
              obtain ⟨h19, e20, hf0⟩ := ob hf0
              refine r_putI C fk_X12_241 dX12_pushes_101 e20 ?_
              obtain rfl := so hf0
              exact r_vret C dX12_pushes_104
            · rw [if_neg c16] at hf1
              refine r_aload_n C dX12_pushes_41 rfl ?_
              refine r_sipush (v := 1600) C dX12_pushes_42 (by decide) ?_
              refine r_iload_n C dX12_pushes_45 rfl ?_
              refine r_aload_n C dX12_pushes_46 rfl ?_
              obtain ⟨t21, e22, hf1⟩ := ob hf1
              refine r_getR C fk_X12_7 rfl dX12_pushes_47 e22 ?_
              refine r_sipush (v := 1608) C dX12_pushes_50 (by decide) ?_
              refine r_iload_n C dX12_pushes_53 rfl ?_
              refine r_iadd C dX12_pushes_54 ?_
              obtain ⟨t23, e24, hf1⟩ := ob hf1
              refine r_ldI C dX12_pushes_55 e24 ?_
              obtain ⟨u26, e25, hf1⟩ := ob hf1
              obtain ⟨t27, e28, hf1⟩ := ob hf1
              refine r_cV (ci := 12) (rest := []) (st2 := [.int t27]) C (s_X12_valueIn e28) mk_X12_valueIn rfl (ck_k e25) (by decide) im_X12_valueIn sl_X12_valueIn lk_X12_234 rfl rfl rfl dX12_pushes_56 (Nat.le_of_ble_eq_true rfl) ⟨Nat.le_of_ble_eq_true rfl, Nat.le_of_ble_eq_true rfl⟩ ⟨Nat.le_of_ble_eq_true rfl, Nat.le_of_ble_eq_true rfl⟩ ?_
              refine r_iload_n C dX12_pushes_59 rfl ?_
              refine r_icmp_ne (tgt := 88) C dX12_pushes_60 (by decide) (fun c29 => ?_) (fun c29 => ?_)
              · rw [if_neg c29] at hf1
                exact J88 h7 t6 hf1
              · rw [if_pos c29] at hf1
                refine r_aload_n C dX12_pushes_63 rfl ?_
                obtain ⟨t30, e31, hf1⟩ := ob hf1
                refine r_getR C fk_X12_50 rfl dX12_pushes_64 e31 ?_
                refine r_iconst (v := 4) C dX12_pushes_67 (by decide) ?_
                refine r_aload_n C dX12_pushes_68 rfl ?_
                obtain ⟨t32, e33, hf1⟩ := ob hf1
                refine r_getI C fk_X12_241 rfl dX12_pushes_69 e33 ?_
                refine r_imul C dX12_pushes_72 ?_
                refine r_iload_n C dX12_pushes_73 rfl ?_
                refine r_bipush (v := 64) C dX12_pushes_74 (by decide) ?_
                obtain ⟨u35, e34, hf1⟩ := ob hf1
                refine r_idiv C dX12_pushes_76 (nz_k e34) ?_
                refine r_iadd C dX12_pushes_77 ?_
                refine r_dup2 C dX12_pushes_78 rfl rfl ?_
                obtain ⟨t36, e37, hf1⟩ := ob hf1
                refine r_ldJ C dX12_pushes_79 e37 ?_
                refine r_lconst (v := 1) C dX12_pushes_80 (by decide) ?_
                refine r_iload_n C dX12_pushes_81 rfl ?_
                refine r_bipush (v := 64) C dX12_pushes_82 (by decide) ?_
                obtain ⟨u39, e38, hf1⟩ := ob hf1
                refine r_irem C dX12_pushes_84 (nz_k e38) ?_
                refine r_lshl C dX12_pushes_85 ?_
                refine r_lor C dX12_pushes_86 ?_
                obtain ⟨h40, e41, hf1⟩ := ob hf1
                refine r_stJ C dX12_pushes_87 e41 ?_
                exact J88 h40 t6 hf1
        refine r_subk [1, 2, 0] (lv' := [(0, .ref v0), (1, .int v1), (2, .int (0 : Int32))]) rfl ?_
        exact L29 wN (0 : Int32) h3 hl29
      · rw [if_neg c4] at hf1
        refine r_aload_n C dX12_pushes_7 rfl ?_
        obtain ⟨t42, e43, hf1⟩ := ob hf1
        refine r_getR C fk_X12_50 rfl dX12_pushes_8 e43 ?_
        refine r_iconst (v := 4) C dX12_pushes_11 (by decide) ?_
        refine r_aload_n C dX12_pushes_12 rfl ?_
        obtain ⟨t44, e45, hf1⟩ := ob hf1
        refine r_getI C fk_X12_241 rfl dX12_pushes_13 e45 ?_
        refine r_imul C dX12_pushes_16 ?_
        refine r_iload_n C dX12_pushes_17 rfl ?_
        refine r_iadd C dX12_pushes_18 ?_
        refine r_lconst (v := 0) C dX12_pushes_19 (by decide) ?_
        obtain ⟨h46, e47, hf1⟩ := ob hf1
        refine r_stJ C dX12_pushes_20 e47 ?_
        obtain ⟨t48, e49, hf1⟩ := ob hf1
        refine r_iinc (lv' := [(2, .int t48), (0, .ref v0), (1, .int v1)]) C dX12_pushes_21 rfl e49 (by decide) rfl ?_
        refine r_goto (tgt := 2) C dX12_pushes_24 (by decide) ?_
        obtain rfl := so hf1
        refine r_subk [1, 2, 0] (lv' := [(0, .ref v0), (1, .int v1), (2, .int t48)]) rfl ?_
        exact ih2 t48 h46 hk2
  refine r_subk [1, 2, 0] (lv' := [(0, .ref v0), (1, .int v1), (2, .int (0 : Int32))]) rfl ?_
  exact L2 wN (0 : Int32) h hl2
def f_X12_isOpen_b2 (h : aH) (v0 : Nat) (v1 : Int32) : Option ((Int32) ⊕ ((Unit) ⊕ (Unit))) := (gI h 12 v0 26).bind fun t1 => if t1 ≤ v1 then some (.inr (.inr ())) else (gR h 12 v0 24).bind fun t2 => (lI h t2 v1).bind fun t3 => if t3 = (40 : Int32) then some (.inr (.inl ())) else (some (v1 + (1 : Int32))).bind fun t4 => some (.inl t4)
def f_X12_isOpen_l2 (h : aH) (v0 : Nat) (v1 : Int32) : Option ((Unit) ⊕ (Unit)) := whileL wN (fun q : Int32 => f_X12_isOpen_b2 h v0 q) v1
def f_X12_isOpen (h : aH) (v0 : Nat) : Option (Int32) := (f_X12_isOpen_l2 h v0 (0 : Int32)).bind fun e => match e with | .inl _ => some (1 : Int32) | .inr _ => some (0 : Int32)
theorem s_X12_isOpen {h : aH} {v0 : Nat} {out : Int32} (hf0 : f_X12_isOpen h v0 = some out) : EV 0 yX12_isOpen cX12_isOpen 2 (some .boolean) h [.ref v0] (some (.int out)) h 0 0 := by
  refine EV.of (own := RX12) (lv0 := [(0, .ref v0)]) (by decide +kernel) rfl rfl (Nat.le_of_ble_eq_true rfl) ?_
  intro p l e s m args below meth c D cA B Hb C hin
  unfold f_X12_isOpen at hf0
  refine r_iconst (v := 0) C dX12_isOpen_0 (by decide) ?_
  refine r_istore_n (lv' := [(1, .int (0 : Int32)), (0, .ref v0)]) C dX12_isOpen_1 (by decide) rfl rfl ?_
  obtain ⟨y1, hl2, hf0⟩ := ob hf0
  have L2 : ∀ (n : Nat) (t2 : Int32), whileL n (fun q : Int32 => f_X12_isOpen_b2 h v0 q) t2 = some y1 → gW p l e (rmO 0 0 0) s m args below meth c (MQ below (eQ D cA B Hb h (some (.int out))) args s 0 0 (fun q => B ≤ q)) D cA B Hb 2 h 2 [(0, .ref v0), (1, .int t2)] [] 0 0 := by
    intro n
    induction n with
    | zero => intro t2 hz; cases hz
    | succ n ih2 =>
      intro t2 hz
      obtain ⟨x2, hf1, hk2⟩ := wl hz
      replace hf1 : f_X12_isOpen_b2 h v0 t2 = some x2 := hf1
      unfold f_X12_isOpen_b2 at hf1
      refine r_iload_n C dX12_isOpen_2 rfl ?_
      refine r_aload_n C dX12_isOpen_3 rfl ?_
      obtain ⟨t3, e4, hf1⟩ := ob hf1
      refine r_getI C fk_X12_238 rfl dX12_isOpen_4 e4 ?_
      refine r_icmp_ge (tgt := 29) C dX12_isOpen_7 (by decide) (fun c5 => ?_) (fun c5 => ?_)
      · rw [if_pos c5] at hf1
        obtain rfl := so hf1
        obtain rfl := so (show some (.inr () : (Unit) ⊕ (Unit)) = some y1 from hk2)
        dsimp only at hf0
        refine r_iconst (v := 0) C dX12_isOpen_29 (by decide) ?_
        obtain rfl := so hf0
        exact r_zret C dX12_isOpen_30 (Or.inl rfl)
      · rw [if_neg c5] at hf1
        refine r_aload_n C dX12_isOpen_10 rfl ?_
        obtain ⟨t6, e7, hf1⟩ := ob hf1
        refine r_getR C fk_X12_53 rfl dX12_isOpen_11 e7 ?_
        refine r_iload_n C dX12_isOpen_14 rfl ?_
        obtain ⟨t8, e9, hf1⟩ := ob hf1
        refine r_ldI C dX12_isOpen_15 e9 ?_
        refine r_bipush (v := 40) C dX12_isOpen_16 (by decide) ?_
        refine r_icmp_ne (tgt := 23) C dX12_isOpen_18 (by decide) (fun c10 => ?_) (fun c10 => ?_)
        · rw [if_neg c10] at hf1
          obtain ⟨t11, e12, hf1⟩ := ob hf1
          refine r_iinc (lv' := [(1, .int t11), (0, .ref v0)]) C dX12_isOpen_23 rfl e12 (by decide) rfl ?_
          refine r_goto (tgt := 2) C dX12_isOpen_26 (by decide) ?_
          obtain rfl := so hf1
          refine r_subk [1, 0] (lv' := [(0, .ref v0), (1, .int t11)]) rfl ?_
          exact ih2 t11 hk2
        · rw [if_pos c10] at hf1
          obtain rfl := so hf1
          obtain rfl := so (show some (.inl () : (Unit) ⊕ (Unit)) = some y1 from hk2)
          dsimp only at hf0
          refine r_iconst (v := 1) C dX12_isOpen_21 (by decide) ?_
          obtain rfl := so hf0
          exact r_zret C dX12_isOpen_22 (Or.inr rfl)
  refine r_subk [1, 0] (lv' := [(0, .ref v0), (1, .int (0 : Int32))]) rfl ?_
  exact L2 wN (0 : Int32) hl2
def f_X12_size_j32 (h : aH) (v0 : Nat) (v1 : Int32) (v3 : Int32) (s0 : Int32) (s1 : Int32) : Option ((Int32 × Int32) ⊕ (Int32)) := (some (s0 + s1)).bind fun t1 => (some (v3 + (1 : Int32))).bind fun t2 => some (.inl (t1, t2))
def f_X12_size_b4 (h : aH) (v0 : Nat) (v1 : Int32) (v2 : Int32) (v3 : Int32) : Option ((Int32 × Int32) ⊕ (Int32)) := (gR h 12 v0 0).bind fun t3 => (lI h t3 (2 : Int32)).bind fun t4 => if t4 ≤ v3 then some (.inr v2) else (gR h 12 v0 1).bind fun t5 => (f_X12_inSet h t5 v1 v3).bind fun t6 => if t6 = 0 then f_X12_size_j32 h v0 v1 v3 v2 (0 : Int32) else f_X12_size_j32 h v0 v1 v3 v2 (1 : Int32)
def f_X12_size_l4 (h : aH) (v0 : Nat) (v1 : Int32) (v2 : Int32) (v3 : Int32) : Option (Int32) := whileL wN (fun q : Int32 × Int32 => f_X12_size_b4 h v0 v1 q.1 q.2) (v2, v3)
def f_X12_size (h : aH) (v0 : Nat) (v1 : Int32) : Option (Int32) := (f_X12_size_l4 h v0 v1 (0 : Int32) (0 : Int32)).bind fun t7 => some t7
theorem s_X12_size {h : aH} {v0 : Nat} {v1 : Int32} {out : Int32} (hf0 : f_X12_size h v0 v1 = some out) : EV 1 yX12_size cX12_size 4 (some .int) h [.ref v0, .int v1] (some (.int out)) h 0 0 := by
  refine EV.of (own := RX12) (lv0 := [(0, .ref v0), (1, .int v1)]) (by decide +kernel) rfl rfl (Nat.le_of_ble_eq_true rfl) ?_
  intro p l e s m args below meth c D cA B Hb C hin
  unfold f_X12_size at hf0
  refine r_iconst (v := 0) C dX12_size_0 (by decide) ?_
  refine r_istore_n (lv' := [(2, .int (0 : Int32)), (0, .ref v0), (1, .int v1)]) C dX12_size_1 (by decide) rfl rfl ?_
  refine r_iconst (v := 0) C dX12_size_2 (by decide) ?_
  refine r_istore_n (lv' := [(3, .int (0 : Int32)), (2, .int (0 : Int32)), (0, .ref v0), (1, .int v1)]) C dX12_size_3 (by decide) rfl rfl ?_
  obtain ⟨y1, hl4, hf0⟩ := ob hf0
  have L4 : ∀ (n : Nat) (t2 : Int32) (t3 : Int32), whileL n (fun q : Int32 × Int32 => f_X12_size_b4 h v0 v1 q.1 q.2) (t2, t3) = some y1 → gW p l e (rmO 1 0 0) s m args below meth c (MQ below (eQ D cA B Hb h (some (.int out))) args s 0 0 (fun q => B ≤ q)) D cA B Hb 4 h 4 [(0, .ref v0), (1, .int v1), (2, .int t2), (3, .int t3)] [] 0 0 := by
    intro n
    induction n with
    | zero => intro t2 t3 hz; cases hz
    | succ n ih4 =>
      intro t2 t3 hz
      obtain ⟨x4, hf1, hk4⟩ := wl hz
      replace hf1 : f_X12_size_b4 h v0 v1 t2 t3 = some x4 := hf1
      unfold f_X12_size_b4 at hf1
      have J32 : ∀ (t4 : Int32) (t5 : Int32) (t6 : Int32), f_X12_size_j32 h v0 v1 t4 t5 t6 = some x4 → gW p l e (rmO 1 0 0) s m args below meth c (MQ below (eQ D cA B Hb h (some (.int out))) args s 0 0 (fun q => B ≤ q)) D cA B Hb 4 h 32 [(0, .ref v0), (1, .int v1), (3, .int t4)] [.int t6, .int t5] 0 0 := by
        intro t4 t5 t6 hf1
        unfold f_X12_size_j32 at hf1
        refine r_iadd C dX12_size_32 ?_
        obtain ⟨t7, e8, hf1⟩ := ob hf1
        refine r_istore_n (lv' := [(2, .int t7), (0, .ref v0), (1, .int v1), (3, .int t4)]) C dX12_size_33 (by decide) e8 rfl ?_
        obtain ⟨t9, e10, hf1⟩ := ob hf1
        refine r_iinc (lv' := [(3, .int t9), (2, .int t7), (0, .ref v0), (1, .int v1)]) C dX12_size_34 rfl e10 (by decide) rfl ?_
        refine r_goto (tgt := 4) C dX12_size_37 (by decide) ?_
        obtain rfl := so hf1
        refine r_subk [2, 3, 1, 0] (lv' := [(0, .ref v0), (1, .int v1), (2, .int t7), (3, .int t9)]) rfl ?_
        exact ih4 t7 t9 hk4
      refine r_iload_n C dX12_size_4 rfl ?_
      refine r_aload_n C dX12_size_5 rfl ?_
      obtain ⟨t11, e12, hf1⟩ := ob hf1
      refine r_getR C fk_X12_7 rfl dX12_size_6 e12 ?_
      refine r_iconst (v := 2) C dX12_size_9 (by decide) ?_
      obtain ⟨t13, e14, hf1⟩ := ob hf1
      refine r_ldI C dX12_size_10 e14 ?_
      refine r_icmp_ge (tgt := 40) C dX12_size_11 (by decide) (fun c15 => ?_) (fun c15 => ?_)
      · rw [if_pos c15] at hf1
        obtain rfl := so hf1
        obtain rfl := so (show some t2 = some y1 from hk4)
        refine r_iload_n C dX12_size_40 rfl ?_
        obtain rfl := so hf0
        exact r_iret C dX12_size_41
      · rw [if_neg c15] at hf1
        refine r_iload_n C dX12_size_14 rfl ?_
        refine r_aload_n C dX12_size_15 rfl ?_
        obtain ⟨t16, e17, hf1⟩ := ob hf1
        refine r_getR C fk_X12_13 rfl dX12_size_16 e17 ?_
        refine r_iload_n C dX12_size_19 rfl ?_
        refine r_iload_n C dX12_size_20 rfl ?_
        obtain ⟨t18, e19, hf1⟩ := ob hf1
        refine r_cS (rest := [.int t2]) (st2 := [.int t18, .int t2]) C (s_X12_inSet e19) mk_X12_inSet sm_X12_inSet lk_X12_303 rfl rfl rfl dX12_size_21 (Nat.le_of_ble_eq_true rfl) ⟨Nat.le_of_ble_eq_true rfl, Nat.le_of_ble_eq_true rfl⟩ ⟨Nat.le_of_ble_eq_true rfl, Nat.le_of_ble_eq_true rfl⟩ ?_
        refine r_ifeq (tgt := 31) C dX12_size_24 (by decide) (fun c20 => ?_) (fun c20 => ?_)
        · rw [if_pos c20] at hf1
          refine r_iconst (v := 0) C dX12_size_31 (by decide) ?_
          refine r_subk [0, 1, 3] (lv' := [(0, .ref v0), (1, .int v1), (3, .int t3)]) rfl ?_
          exact J32 t3 t2 (0 : Int32) hf1
        · rw [if_neg c20] at hf1
          refine r_iconst (v := 1) C dX12_size_27 (by decide) ?_
          refine r_goto (tgt := 32) C dX12_size_28 (by decide) ?_
          refine r_subk [0, 1, 3] (lv' := [(0, .ref v0), (1, .int v1), (3, .int t3)]) rfl ?_
          exact J32 t3 t2 (1 : Int32) hf1
  refine r_subk [2, 3, 1, 0] (lv' := [(0, .ref v0), (1, .int v1), (2, .int (0 : Int32)), (3, .int (0 : Int32))]) rfl ?_
  exact L4 wN (0 : Int32) (0 : Int32) hl4
def f_X12_isWorld (h : aH) (v0 : Nat) (v1 : Int32) : Option (Int32) := if v1 < 0 then some (0 : Int32) else (gR h 12 v0 0).bind fun t1 => (lI h t1 (2 : Int32)).bind fun t2 => if t2 ≤ v1 then some (0 : Int32) else some (1 : Int32)
theorem s_X12_isWorld {h : aH} {v0 : Nat} {v1 : Int32} {out : Int32} (hf0 : f_X12_isWorld h v0 v1 = some out) : EV 0 yX12_isWorld cX12_isWorld 2 (some .boolean) h [.ref v0, .int v1] (some (.int out)) h 0 0 := by
  refine EV.of (own := RX12) (lv0 := [(0, .ref v0), (1, .int v1)]) (by decide +kernel) rfl rfl (Nat.le_of_ble_eq_true rfl) ?_
  intro p l e s m args below meth c D cA B Hb C hin
  unfold f_X12_isWorld at hf0
  refine r_iload_n C dX12_isWorld_0 rfl ?_
  refine r_iflt (tgt := 18) C dX12_isWorld_1 (by decide) (fun c1 => ?_) (fun c1 => ?_)
  · rw [if_pos c1] at hf0
    refine r_iconst (v := 0) C dX12_isWorld_18 (by decide) ?_
    obtain rfl := so hf0
    exact r_zret C dX12_isWorld_19 (Or.inl rfl)
  · rw [if_neg c1] at hf0
    refine r_iload_n C dX12_isWorld_4 rfl ?_
    refine r_aload_n C dX12_isWorld_5 rfl ?_
    obtain ⟨t2, e3, hf0⟩ := ob hf0
    refine r_getR C fk_X12_7 rfl dX12_isWorld_6 e3 ?_
    refine r_iconst (v := 2) C dX12_isWorld_9 (by decide) ?_
    obtain ⟨t4, e5, hf0⟩ := ob hf0
    refine r_ldI C dX12_isWorld_10 e5 ?_
    refine r_icmp_ge (tgt := 18) C dX12_isWorld_11 (by decide) (fun c6 => ?_) (fun c6 => ?_)
    · rw [if_pos c6] at hf0
      refine r_iconst (v := 0) C dX12_isWorld_18 (by decide) ?_
      obtain rfl := so hf0
      exact r_zret C dX12_isWorld_19 (Or.inl rfl)
    · rw [if_neg c6] at hf0
      refine r_iconst (v := 1) C dX12_isWorld_14 (by decide) ?_
      refine r_goto (tgt := 19) C dX12_isWorld_15 (by decide) ?_
      obtain rfl := so hf0
      exact r_zret C dX12_isWorld_19 (Or.inr rfl)
def f_X12_isQuestion (h : aH) (v0 : Nat) (v1 : Int32) : Option (Int32) := if v1 < 0 then some (0 : Int32) else (gR h 12 v0 0).bind fun t1 => (lI h t1 (3 : Int32)).bind fun t2 => if t2 ≤ v1 then some (0 : Int32) else some (1 : Int32)
theorem s_X12_isQuestion {h : aH} {v0 : Nat} {v1 : Int32} {out : Int32} (hf0 : f_X12_isQuestion h v0 v1 = some out) : EV 0 yX12_isQuestion cX12_isQuestion 2 (some .boolean) h [.ref v0, .int v1] (some (.int out)) h 0 0 := by
  refine EV.of (own := RX12) (lv0 := [(0, .ref v0), (1, .int v1)]) (by decide +kernel) rfl rfl (Nat.le_of_ble_eq_true rfl) ?_
  intro p l e s m args below meth c D cA B Hb C hin
  unfold f_X12_isQuestion at hf0
  refine r_iload_n C dX12_isQuestion_0 rfl ?_
  refine r_iflt (tgt := 18) C dX12_isQuestion_1 (by decide) (fun c1 => ?_) (fun c1 => ?_)
  · rw [if_pos c1] at hf0
    refine r_iconst (v := 0) C dX12_isQuestion_18 (by decide) ?_
    obtain rfl := so hf0
    exact r_zret C dX12_isQuestion_19 (Or.inl rfl)
  · rw [if_neg c1] at hf0
    refine r_iload_n C dX12_isQuestion_4 rfl ?_
    refine r_aload_n C dX12_isQuestion_5 rfl ?_
    obtain ⟨t2, e3, hf0⟩ := ob hf0
    refine r_getR C fk_X12_7 rfl dX12_isQuestion_6 e3 ?_
    refine r_iconst (v := 3) C dX12_isQuestion_9 (by decide) ?_
    obtain ⟨t4, e5, hf0⟩ := ob hf0
    refine r_ldI C dX12_isQuestion_10 e5 ?_
    refine r_icmp_ge (tgt := 18) C dX12_isQuestion_11 (by decide) (fun c6 => ?_) (fun c6 => ?_)
    · rw [if_pos c6] at hf0
      refine r_iconst (v := 0) C dX12_isQuestion_18 (by decide) ?_
      obtain rfl := so hf0
      exact r_zret C dX12_isQuestion_19 (Or.inl rfl)
    · rw [if_neg c6] at hf0
      refine r_iconst (v := 1) C dX12_isQuestion_14 (by decide) ?_
      refine r_goto (tgt := 19) C dX12_isQuestion_15 (by decide) ?_
      obtain rfl := so hf0
      exact r_zret C dX12_isQuestion_19 (Or.inr rfl)
def f_X12_isWitness (h : aH) (v0 : Nat) (v1 : Int32) : Option (Int32) := if v1 < 0 then some (0 : Int32) else (gR h 12 v0 0).bind fun t1 => (lI h t1 (4 : Int32)).bind fun t2 => if t2 ≤ v1 then some (0 : Int32) else some (1 : Int32)
theorem s_X12_isWitness {h : aH} {v0 : Nat} {v1 : Int32} {out : Int32} (hf0 : f_X12_isWitness h v0 v1 = some out) : EV 0 yX12_isWitness cX12_isWitness 2 (some .boolean) h [.ref v0, .int v1] (some (.int out)) h 0 0 := by
  refine EV.of (own := RX12) (lv0 := [(0, .ref v0), (1, .int v1)]) (by decide +kernel) rfl rfl (Nat.le_of_ble_eq_true rfl) ?_
  intro p l e s m args below meth c D cA B Hb C hin
  unfold f_X12_isWitness at hf0
  refine r_iload_n C dX12_isWitness_0 rfl ?_
  refine r_iflt (tgt := 18) C dX12_isWitness_1 (by decide) (fun c1 => ?_) (fun c1 => ?_)
  · rw [if_pos c1] at hf0
    refine r_iconst (v := 0) C dX12_isWitness_18 (by decide) ?_
    obtain rfl := so hf0
    exact r_zret C dX12_isWitness_19 (Or.inl rfl)
  · rw [if_neg c1] at hf0
    refine r_iload_n C dX12_isWitness_4 rfl ?_
    refine r_aload_n C dX12_isWitness_5 rfl ?_
    obtain ⟨t2, e3, hf0⟩ := ob hf0
    refine r_getR C fk_X12_7 rfl dX12_isWitness_6 e3 ?_
    refine r_iconst (v := 4) C dX12_isWitness_9 (by decide) ?_
    obtain ⟨t4, e5, hf0⟩ := ob hf0
    refine r_ldI C dX12_isWitness_10 e5 ?_
    refine r_icmp_ge (tgt := 18) C dX12_isWitness_11 (by decide) (fun c6 => ?_) (fun c6 => ?_)
    · rw [if_pos c6] at hf0
      refine r_iconst (v := 0) C dX12_isWitness_18 (by decide) ?_
      obtain rfl := so hf0
      exact r_zret C dX12_isWitness_19 (Or.inl rfl)
    · rw [if_neg c6] at hf0
      refine r_iconst (v := 1) C dX12_isWitness_14 (by decide) ?_
      refine r_goto (tgt := 19) C dX12_isWitness_15 (by decide) ?_
      obtain rfl := so hf0
      exact r_zret C dX12_isWitness_19 (Or.inr rfl)
def f_X12_isKind (h : aH) (v0 : Int32) : Option (Int32) := if v0 < 0 then some (0 : Int32) else if (4 : Int32) ≤ v0 then some (0 : Int32) else some (1 : Int32)
theorem s_X12_isKind {h : aH} {v0 : Int32} {out : Int32} (hf0 : f_X12_isKind h v0 = some out) : EV 0 yX12_isKind cX12_isKind 1 (some .boolean) h [.int v0] (some (.int out)) h 0 0 := by
  refine EV.of (own := RX12) (lv0 := [(0, .int v0)]) (by decide +kernel) rfl rfl (Nat.le_of_ble_eq_true rfl) ?_
  intro p l e s m args below meth c D cA B Hb C hin
  unfold f_X12_isKind at hf0
  refine r_iload_n C dX12_isKind_0 rfl ?_
  refine r_iflt (tgt := 13) C dX12_isKind_1 (by decide) (fun c1 => ?_) (fun c1 => ?_)
  · rw [if_pos c1] at hf0
    refine r_iconst (v := 0) C dX12_isKind_13 (by decide) ?_
    obtain rfl := so hf0
    exact r_zret C dX12_isKind_14 (Or.inl rfl)
  · rw [if_neg c1] at hf0
    refine r_iload_n C dX12_isKind_4 rfl ?_
    refine r_iconst (v := 4) C dX12_isKind_5 (by decide) ?_
    refine r_icmp_ge (tgt := 13) C dX12_isKind_6 (by decide) (fun c2 => ?_) (fun c2 => ?_)
    · rw [if_pos c2] at hf0
      refine r_iconst (v := 0) C dX12_isKind_13 (by decide) ?_
      obtain rfl := so hf0
      exact r_zret C dX12_isKind_14 (Or.inl rfl)
    · rw [if_neg c2] at hf0
      refine r_iconst (v := 1) C dX12_isKind_9 (by decide) ?_
      refine r_goto (tgt := 14) C dX12_isKind_10 (by decide) ?_
      obtain rfl := so hf0
      exact r_zret C dX12_isKind_14 (Or.inr rfl)
def f_X12_isIn (h : aH) (v0 : Nat) (v1 : Int32) (v2 : Int32) : Option (Int32) := (gR h 12 v0 1).bind fun t1 => (f_X12_inSet h t1 ((4 : Int32) + ((4 : Int32) * v1)) v2).bind fun t2 => (rZ t2).bind fun t3 => some t3
theorem s_X12_isIn {h : aH} {v0 : Nat} {v1 : Int32} {v2 : Int32} {out : Int32} (hf0 : f_X12_isIn h v0 v1 v2 = some out) : EV 1 yX12_isIn cX12_isIn 3 (some .boolean) h [.ref v0, .int v1, .int v2] (some (.int out)) h 0 0 := by
  refine EV.of (own := RX12) (lv0 := [(0, .ref v0), (1, .int v1), (2, .int v2)]) (by decide +kernel) rfl rfl (Nat.le_of_ble_eq_true rfl) ?_
  intro p l e s m args below meth c D cA B Hb C hin
  unfold f_X12_isIn at hf0
  refine r_aload_n C dX12_isIn_0 rfl ?_
  obtain ⟨t1, e2, hf0⟩ := ob hf0
  refine r_getR C fk_X12_13 rfl dX12_isIn_1 e2 ?_
  refine r_iconst (v := 4) C dX12_isIn_4 (by decide) ?_
  refine r_iconst (v := 4) C dX12_isIn_5 (by decide) ?_
  refine r_iload_n C dX12_isIn_6 rfl ?_
  refine r_imul C dX12_isIn_7 ?_
  refine r_iadd C dX12_isIn_8 ?_
  refine r_iload_n C dX12_isIn_9 rfl ?_
  obtain ⟨t3, e4, hf0⟩ := ob hf0
  refine r_cS (rest := []) (st2 := [.int t3]) C (s_X12_inSet e4) mk_X12_inSet sm_X12_inSet lk_X12_303 rfl rfl rfl dX12_isIn_10 (Nat.le_of_ble_eq_true rfl) ⟨Nat.le_of_ble_eq_true rfl, Nat.le_of_ble_eq_true rfl⟩ ⟨Nat.le_of_ble_eq_true rfl, Nat.le_of_ble_eq_true rfl⟩ ?_
  obtain ⟨t5, e6, hf0⟩ := ob hf0
  obtain ⟨rfl, e6z⟩ := rZ_k e6
  obtain rfl := so hf0
  exact r_zret C dX12_isIn_13 e6z
def f_X12_ofHeard (h : aH) (v0 : Nat) (v1 : Int32) (v2 : Int32) : Option (Int32) := (gR h 12 v0 0).bind fun t1 => (lI h t1 (((100 : Int32) + ((4 : Int32) * v1)) + v2)).bind fun t2 => some t2
theorem s_X12_ofHeard {h : aH} {v0 : Nat} {v1 : Int32} {v2 : Int32} {out : Int32} (hf0 : f_X12_ofHeard h v0 v1 v2 = some out) : EV 0 yX12_ofHeard cX12_ofHeard 3 (some .int) h [.ref v0, .int v1, .int v2] (some (.int out)) h 0 0 := by
  refine EV.of (own := RX12) (lv0 := [(0, .ref v0), (1, .int v1), (2, .int v2)]) (by decide +kernel) rfl rfl (Nat.le_of_ble_eq_true rfl) ?_
  intro p l e s m args below meth c D cA B Hb C hin
  unfold f_X12_ofHeard at hf0
  refine r_aload_n C dX12_ofHeard_0 rfl ?_
  obtain ⟨t1, e2, hf0⟩ := ob hf0
  refine r_getR C fk_X12_7 rfl dX12_ofHeard_1 e2 ?_
  refine r_bipush (v := 100) C dX12_ofHeard_4 (by decide) ?_
  refine r_iconst (v := 4) C dX12_ofHeard_6 (by decide) ?_
  refine r_iload_n C dX12_ofHeard_7 rfl ?_
  refine r_imul C dX12_ofHeard_8 ?_
  refine r_iadd C dX12_ofHeard_9 ?_
  refine r_iload_n C dX12_ofHeard_10 rfl ?_
  refine r_iadd C dX12_ofHeard_11 ?_
  obtain ⟨t3, e4, hf0⟩ := ob hf0
  refine r_ldI C dX12_ofHeard_12 e4 ?_
  obtain rfl := so hf0
  exact r_iret C dX12_ofHeard_13
def f_X12_putToday_j36 (h : aH) (v0 : Nat) (v2 : Int32) (s0 : Int32) (s1 : Int32) : Option ((Int32 × Int32) ⊕ (Int32)) := (some (s0 + s1)).bind fun t1 => (some (v2 + (1 : Int32))).bind fun t2 => some (.inl (t1, t2))
def f_X12_putToday_b4 (h : aH) (v0 : Nat) (v1 : Int32) (v2 : Int32) : Option ((Int32 × Int32) ⊕ (Int32)) := (gR h 12 v0 0).bind fun t3 => (lI h t3 (6 : Int32)).bind fun t4 => if t4 ≤ v2 then some (.inr v1) else (ck h 12 v0).bind fun _ => (f_X12_ofHeard h v0 v2 (3 : Int32)).bind fun t5 => (gR h 12 v0 0).bind fun t6 => (lI h t6 (5 : Int32)).bind fun t7 => if t5 = t7 then f_X12_putToday_j36 h v0 v2 v1 (1 : Int32) else f_X12_putToday_j36 h v0 v2 v1 (0 : Int32)
def f_X12_putToday_l4 (h : aH) (v0 : Nat) (v1 : Int32) (v2 : Int32) : Option (Int32) := whileL wN (fun q : Int32 × Int32 => f_X12_putToday_b4 h v0 q.1 q.2) (v1, v2)
def f_X12_putToday (h : aH) (v0 : Nat) : Option (Int32) := (f_X12_putToday_l4 h v0 (0 : Int32) (0 : Int32)).bind fun t8 => some t8
theorem s_X12_putToday {h : aH} {v0 : Nat} {out : Int32} (hf0 : f_X12_putToday h v0 = some out) : EV 1 yX12_putToday cX12_putToday 3 (some .int) h [.ref v0] (some (.int out)) h 0 0 := by
  refine EV.of (own := RX12) (lv0 := [(0, .ref v0)]) (by decide +kernel) rfl rfl (Nat.le_of_ble_eq_true rfl) ?_
  intro p l e s m args below meth c D cA B Hb C hin
  unfold f_X12_putToday at hf0
  refine r_iconst (v := 0) C dX12_putToday_0 (by decide) ?_
  refine r_istore_n (lv' := [(1, .int (0 : Int32)), (0, .ref v0)]) C dX12_putToday_1 (by decide) rfl rfl ?_
  refine r_iconst (v := 0) C dX12_putToday_2 (by decide) ?_
  refine r_istore_n (lv' := [(2, .int (0 : Int32)), (1, .int (0 : Int32)), (0, .ref v0)]) C dX12_putToday_3 (by decide) rfl rfl ?_
  obtain ⟨y1, hl4, hf0⟩ := ob hf0
  have L4 : ∀ (n : Nat) (t2 : Int32) (t3 : Int32), whileL n (fun q : Int32 × Int32 => f_X12_putToday_b4 h v0 q.1 q.2) (t2, t3) = some y1 → gW p l e (rmO 1 0 0) s m args below meth c (MQ below (eQ D cA B Hb h (some (.int out))) args s 0 0 (fun q => B ≤ q)) D cA B Hb 3 h 4 [(0, .ref v0), (1, .int t2), (2, .int t3)] [] 0 0 := by
    intro n
    induction n with
    | zero => intro t2 t3 hz; cases hz
    | succ n ih4 =>
      intro t2 t3 hz
      obtain ⟨x4, hf1, hk4⟩ := wl hz
      replace hf1 : f_X12_putToday_b4 h v0 t2 t3 = some x4 := hf1
      unfold f_X12_putToday_b4 at hf1
      have J36 : ∀ (t4 : Int32) (t5 : Int32) (t6 : Int32), f_X12_putToday_j36 h v0 t4 t5 t6 = some x4 → gW p l e (rmO 1 0 0) s m args below meth c (MQ below (eQ D cA B Hb h (some (.int out))) args s 0 0 (fun q => B ≤ q)) D cA B Hb 3 h 36 [(0, .ref v0), (2, .int t4)] [.int t6, .int t5] 0 0 := by
        intro t4 t5 t6 hf1
        unfold f_X12_putToday_j36 at hf1
        refine r_iadd C dX12_putToday_36 ?_
        obtain ⟨t7, e8, hf1⟩ := ob hf1
        refine r_istore_n (lv' := [(1, .int t7), (0, .ref v0), (2, .int t4)]) C dX12_putToday_37 (by decide) e8 rfl ?_
        obtain ⟨t9, e10, hf1⟩ := ob hf1
        refine r_iinc (lv' := [(2, .int t9), (1, .int t7), (0, .ref v0)]) C dX12_putToday_38 rfl e10 (by decide) rfl ?_
        refine r_goto (tgt := 4) C dX12_putToday_41 (by decide) ?_
        obtain rfl := so hf1
        refine r_subk [2, 1, 0] (lv' := [(0, .ref v0), (1, .int t7), (2, .int t9)]) rfl ?_
        exact ih4 t7 t9 hk4
      refine r_iload_n C dX12_putToday_4 rfl ?_
      refine r_aload_n C dX12_putToday_5 rfl ?_
      obtain ⟨t11, e12, hf1⟩ := ob hf1
      refine r_getR C fk_X12_7 rfl dX12_putToday_6 e12 ?_
      refine r_bipush (v := 6) C dX12_putToday_9 (by decide) ?_
      obtain ⟨t13, e14, hf1⟩ := ob hf1
      refine r_ldI C dX12_putToday_11 e14 ?_
      refine r_icmp_ge (tgt := 44) C dX12_putToday_12 (by decide) (fun c15 => ?_) (fun c15 => ?_)
      · rw [if_pos c15] at hf1
        obtain rfl := so hf1
        obtain rfl := so (show some t2 = some y1 from hk4)
        refine r_iload_n C dX12_putToday_44 rfl ?_
        obtain rfl := so hf0
        exact r_iret C dX12_putToday_45
      · rw [if_neg c15] at hf1
        refine r_iload_n C dX12_putToday_15 rfl ?_
        refine r_aload_n C dX12_putToday_16 rfl ?_
        refine r_iload_n C dX12_putToday_17 rfl ?_
        refine r_iconst (v := 3) C dX12_putToday_18 (by decide) ?_
        obtain ⟨u17, e16, hf1⟩ := ob hf1
        obtain ⟨t18, e19, hf1⟩ := ob hf1
        refine r_cV (ci := 12) (rest := [.int t2]) (st2 := [.int t18, .int t2]) C (s_X12_ofHeard e19) mk_X12_ofHeard rfl (ck_k e16) (by decide) im_X12_ofHeard sl_X12_ofHeard lk_X12_322 rfl rfl rfl dX12_putToday_19 (Nat.le_of_ble_eq_true rfl) ⟨Nat.le_of_ble_eq_true rfl, Nat.le_of_ble_eq_true rfl⟩ ⟨Nat.le_of_ble_eq_true rfl, Nat.le_of_ble_eq_true rfl⟩ ?_
        refine r_aload_n C dX12_putToday_22 rfl ?_
        obtain ⟨t20, e21, hf1⟩ := ob hf1
        refine r_getR C fk_X12_7 rfl dX12_putToday_23 e21 ?_
        refine r_iconst (v := 5) C dX12_putToday_26 (by decide) ?_
        obtain ⟨t22, e23, hf1⟩ := ob hf1
        refine r_ldI C dX12_putToday_27 e23 ?_
        refine r_icmp_ne (tgt := 35) C dX12_putToday_28 (by decide) (fun c24 => ?_) (fun c24 => ?_)
        · rw [if_neg c24] at hf1
          refine r_iconst (v := 0) C dX12_putToday_35 (by decide) ?_
          refine r_subk [0, 2] (lv' := [(0, .ref v0), (2, .int t3)]) rfl ?_
          exact J36 t3 t2 (0 : Int32) hf1
        · rw [if_pos c24] at hf1
          refine r_iconst (v := 1) C dX12_putToday_31 (by decide) ?_
          refine r_goto (tgt := 36) C dX12_putToday_32 (by decide) ?_
          refine r_subk [0, 2] (lv' := [(0, .ref v0), (2, .int t3)]) rfl ?_
          exact J36 t3 t2 (1 : Int32) hf1
  refine r_subk [2, 1, 0] (lv' := [(0, .ref v0), (1, .int (0 : Int32)), (2, .int (0 : Int32))]) rfl ?_
  exact L4 wN (0 : Int32) (0 : Int32) hl4
def f_X12_told_j38 (h : aH) (s0 : Nat) (s1 : Int32) : Option (Int32 × aH) := (ck h 12 s0).bind fun _ => bd2 (f_X12_gives h s0 s1) fun t1 h2 => some (t1, h2)
def f_X12_told_j10 (h : aH) (v0 : Nat) : Option (Int32 × aH) := (ck h 12 v0).bind fun _ => bd2 (f_X12_refuse h v0 (1 : Int32)) fun t3 h4 => some (t3, h4)
def f_X12_told (h : aH) (v0 : Nat) (v1 : Int32) : Option (Int32 × aH) := if v1 < 0 then f_X12_told_j10 h v0 else if v1 ≤ (7 : Int32) then if v1 = (7 : Int32) then (ck h 12 v0).bind fun _ => (f_X12_putToday h v0).bind fun t7 => f_X12_told_j38 h v0 t7 else (gR h 12 v0 0).bind fun t5 => (lI h t5 v1).bind fun t6 => f_X12_told_j38 h v0 t6 else f_X12_told_j10 h v0
theorem s_X12_told {h : aH} {v0 : Nat} {v1 : Int32} {out : Int32 × aH} (hf0 : f_X12_told h v0 v1 = some out) : EV 2 yX12_told cX12_told 2 (some .int) h [.ref v0, .int v1] (some (.int out.1)) out.2 0 0 := by
  refine EV.of (own := RX12) (lv0 := [(0, .ref v0), (1, .int v1)]) (by decide +kernel) rfl rfl (Nat.le_of_ble_eq_true rfl) ?_
  intro p l e s m args below meth c D cA B Hb C hin
  unfold f_X12_told at hf0
  have J38 : ∀ (h1 : aH) (t2 : Nat) (t3 : Int32), f_X12_told_j38 h1 t2 t3 = some out → gW p l e (rmO 2 0 0) s m args below meth c (MQ below (eQ D cA B Hb out.2 (some (.int out.1))) args s 0 0 (fun q => B ≤ q)) D cA B Hb 2 h1 38 [] [.int t3, .ref t2] 0 0 := by
    intro h1 t2 t3 hf0
    unfold f_X12_told_j38 at hf0
    obtain ⟨u5, e4, hf0⟩ := ob hf0
    obtain ⟨t6, h7, e8, hf0⟩ := ob2 hf0
    refine r_cV (ci := 12) (rest := []) (st2 := [.int t6]) C (s_X12_gives e8) mk_X12_gives rfl (ck_k e4) (by decide) im_X12_gives sl_X12_gives lk_X12_200 rfl rfl rfl dX12_told_38 (Nat.le_of_ble_eq_true rfl) ⟨Nat.le_of_ble_eq_true rfl, Nat.le_of_ble_eq_true rfl⟩ ⟨Nat.le_of_ble_eq_true rfl, Nat.le_of_ble_eq_true rfl⟩ ?_
    obtain rfl := so hf0
    exact r_iret C dX12_told_41
  have J10 : ∀ (h9 : aH) (t10 : Nat), f_X12_told_j10 h9 t10 = some out → gW p l e (rmO 2 0 0) s m args below meth c (MQ below (eQ D cA B Hb out.2 (some (.int out.1))) args s 0 0 (fun q => B ≤ q)) D cA B Hb 2 h9 10 [(0, .ref t10)] [] 0 0 := by
    intro h9 t10 hf0
    unfold f_X12_told_j10 at hf0
    refine r_aload_n C dX12_told_10 rfl ?_
    refine r_iconst (v := 1) C dX12_told_11 (by decide) ?_
    obtain ⟨u12, e11, hf0⟩ := ob hf0
    obtain ⟨t13, h14, e15, hf0⟩ := ob2 hf0
    refine r_cV (ci := 12) (rest := []) (st2 := [.int t13]) C (s_X12_refuse e15) mk_X12_refuse rfl (ck_k e11) (by decide) im_X12_refuse sl_X12_refuse lk_X12_197 rfl rfl rfl dX12_told_12 (Nat.le_of_ble_eq_true rfl) ⟨Nat.le_of_ble_eq_true rfl, Nat.le_of_ble_eq_true rfl⟩ ⟨Nat.le_of_ble_eq_true rfl, Nat.le_of_ble_eq_true rfl⟩ ?_
    refine r_goto (tgt := 41) C dX12_told_15 (by decide) ?_
    obtain rfl := so hf0
    exact r_iret C dX12_told_41
  refine r_iload_n C dX12_told_0 rfl ?_
  refine r_iflt (tgt := 10) C dX12_told_1 (by decide) (fun c16 => ?_) (fun c16 => ?_)
  · rw [if_pos c16] at hf0
    refine r_subk [0] (lv' := [(0, .ref v0)]) rfl ?_
    exact J10 h v0 hf0
  · rw [if_neg c16] at hf0
    refine r_iload_n C dX12_told_4 rfl ?_
    refine r_bipush (v := 7) C dX12_told_5 (by decide) ?_
    refine r_icmp_le (tgt := 18) C dX12_told_7 (by decide) (fun c17 => ?_) (fun c17 => ?_)
    · rw [if_pos c17] at hf0
      refine r_aload_n C dX12_told_18 rfl ?_
      refine r_iload_n C dX12_told_19 rfl ?_
      refine r_bipush (v := 7) C dX12_told_20 (by decide) ?_
      refine r_icmp_ne (tgt := 32) C dX12_told_22 (by decide) (fun c18 => ?_) (fun c18 => ?_)
      · rw [if_neg c18] at hf0
        refine r_aload_n C dX12_told_32 rfl ?_
        obtain ⟨t19, e20, hf0⟩ := ob hf0
        refine r_getR C fk_X12_7 rfl dX12_told_33 e20 ?_
        refine r_iload_n C dX12_told_36 rfl ?_
        obtain ⟨t21, e22, hf0⟩ := ob hf0
        refine r_ldI C dX12_told_37 e22 ?_
        refine r_subk [] (lv' := []) rfl ?_
        exact J38 h v0 t21 hf0
      · rw [if_pos c18] at hf0
        refine r_aload_n C dX12_told_25 rfl ?_
        obtain ⟨u24, e23, hf0⟩ := ob hf0
        obtain ⟨t25, e26, hf0⟩ := ob hf0
        refine r_cV (ci := 12) (rest := [.ref v0]) (st2 := [.int t25, .ref v0]) C (s_X12_putToday e26) mk_X12_putToday rfl (ck_k e23) (by decide) im_X12_putToday sl_X12_putToday lk_X12_325 rfl rfl rfl dX12_told_26 (Nat.le_of_ble_eq_true rfl) ⟨Nat.le_of_ble_eq_true rfl, Nat.le_of_ble_eq_true rfl⟩ ⟨Nat.le_of_ble_eq_true rfl, Nat.le_of_ble_eq_true rfl⟩ ?_
        refine r_goto (tgt := 38) C dX12_told_29 (by decide) ?_
        refine r_subk [] (lv' := []) rfl ?_
        exact J38 h v0 t25 hf0
    · rw [if_neg c17] at hf0
      refine r_subk [0] (lv' := [(0, .ref v0)]) rfl ?_
      exact J10 h v0 hf0
def f_X12_value_j45 (h : aH) (v1 : Int32) (s0 : Nat) (s1 : Nat) (s2 : Int32) : Option (Int32 × aH) := (lI h s1 (s2 + v1)).bind fun t1 => (ck h 12 s0).bind fun _ => bd2 (f_X12_gives h s0 t1) fun t2 h3 => some (t2, h3)
def f_X12_value_j23 (h : aH) (v0 : Nat) : Option (Int32 × aH) := (ck h 12 v0).bind fun _ => bd2 (f_X12_refuse h v0 (1 : Int32)) fun t4 h5 => some (t4, h5)
def f_X12_value (h : aH) (v0 : Nat) (v1 : Int32) (v2 : Int32) : Option (Int32 × aH) := if v1 < 0 then f_X12_value_j23 h v0 else (gR h 12 v0 0).bind fun t6 => (lI h t6 (1 : Int32)).bind fun t7 => if t7 ≤ v1 then f_X12_value_j23 h v0 else if v2 < 0 then f_X12_value_j23 h v0 else if v2 ≤ (1 : Int32) then (gR h 12 v0 0).bind fun t8 => if v2 = 0 then f_X12_value_j45 h v1 v0 t8 (8 : Int32) else f_X12_value_j45 h v1 v0 t8 (32 : Int32) else f_X12_value_j23 h v0
theorem s_X12_value {h : aH} {v0 : Nat} {v1 : Int32} {v2 : Int32} {out : Int32 × aH} (hf0 : f_X12_value h v0 v1 v2 = some out) : EV 1 yX12_value cX12_value 3 (some .int) h [.ref v0, .int v1, .int v2] (some (.int out.1)) out.2 0 0 := by
  refine EV.of (own := RX12) (lv0 := [(0, .ref v0), (1, .int v1), (2, .int v2)]) (by decide +kernel) rfl rfl (Nat.le_of_ble_eq_true rfl) ?_
  intro p l e s m args below meth c D cA B Hb C hin
  unfold f_X12_value at hf0
  have J45 : ∀ (h1 : aH) (t2 : Int32) (t3 : Nat) (t4 : Nat) (t5 : Int32), f_X12_value_j45 h1 t2 t3 t4 t5 = some out → gW p l e (rmO 1 0 0) s m args below meth c (MQ below (eQ D cA B Hb out.2 (some (.int out.1))) args s 0 0 (fun q => B ≤ q)) D cA B Hb 3 h1 45 [(1, .int t2)] [.int t5, .ref t4, .ref t3] 0 0 := by
    intro h1 t2 t3 t4 t5 hf0
    unfold f_X12_value_j45 at hf0
    refine r_iload_n C dX12_value_45 rfl ?_
    refine r_iadd C dX12_value_46 ?_
    obtain ⟨t6, e7, hf0⟩ := ob hf0
    refine r_ldI C dX12_value_47 e7 ?_
    obtain ⟨u9, e8, hf0⟩ := ob hf0
    obtain ⟨t10, h11, e12, hf0⟩ := ob2 hf0
    refine r_cV (ci := 12) (rest := []) (st2 := [.int t10]) C (s_X12_gives e12) mk_X12_gives rfl (ck_k e8) (by decide) im_X12_gives sl_X12_gives lk_X12_200 rfl rfl rfl dX12_value_48 (Nat.le_of_ble_eq_true rfl) ⟨Nat.le_of_ble_eq_true rfl, Nat.le_of_ble_eq_true rfl⟩ ⟨Nat.le_of_ble_eq_true rfl, Nat.le_of_ble_eq_true rfl⟩ ?_
    obtain rfl := so hf0
    exact r_iret C dX12_value_51
  have J23 : ∀ (h13 : aH) (t14 : Nat), f_X12_value_j23 h13 t14 = some out → gW p l e (rmO 1 0 0) s m args below meth c (MQ below (eQ D cA B Hb out.2 (some (.int out.1))) args s 0 0 (fun q => B ≤ q)) D cA B Hb 3 h13 23 [(0, .ref t14)] [] 0 0 := by
    intro h13 t14 hf0
    unfold f_X12_value_j23 at hf0
    refine r_aload_n C dX12_value_23 rfl ?_
    refine r_iconst (v := 1) C dX12_value_24 (by decide) ?_
    obtain ⟨u16, e15, hf0⟩ := ob hf0
    obtain ⟨t17, h18, e19, hf0⟩ := ob2 hf0
    refine r_cV (ci := 12) (rest := []) (st2 := [.int t17]) C (s_X12_refuse e19) mk_X12_refuse rfl (ck_k e15) (by decide) im_X12_refuse sl_X12_refuse lk_X12_197 rfl rfl rfl dX12_value_25 (Nat.le_of_ble_eq_true rfl) ⟨Nat.le_of_ble_eq_true rfl, Nat.le_of_ble_eq_true rfl⟩ ⟨Nat.le_of_ble_eq_true rfl, Nat.le_of_ble_eq_true rfl⟩ ?_
    obtain rfl := so hf0
    exact r_iret C dX12_value_28
  refine r_iload_n C dX12_value_0 rfl ?_
  refine r_iflt (tgt := 23) C dX12_value_1 (by decide) (fun c20 => ?_) (fun c20 => ?_)
  · rw [if_pos c20] at hf0
    refine r_subk [0] (lv' := [(0, .ref v0)]) rfl ?_
    exact J23 h v0 hf0
  · rw [if_neg c20] at hf0
    refine r_iload_n C dX12_value_4 rfl ?_
    refine r_aload_n C dX12_value_5 rfl ?_
    obtain ⟨t21, e22, hf0⟩ := ob hf0
    refine r_getR C fk_X12_7 rfl dX12_value_6 e22 ?_
    refine r_iconst (v := 1) C dX12_value_9 (by decide) ?_
    obtain ⟨t23, e24, hf0⟩ := ob hf0
    refine r_ldI C dX12_value_10 e24 ?_
    refine r_icmp_ge (tgt := 23) C dX12_value_11 (by decide) (fun c25 => ?_) (fun c25 => ?_)
    · rw [if_pos c25] at hf0
      refine r_subk [0] (lv' := [(0, .ref v0)]) rfl ?_
      exact J23 h v0 hf0
    · rw [if_neg c25] at hf0
      refine r_iload_n C dX12_value_14 rfl ?_
      refine r_iflt (tgt := 23) C dX12_value_15 (by decide) (fun c26 => ?_) (fun c26 => ?_)
      · rw [if_pos c26] at hf0
        refine r_subk [0] (lv' := [(0, .ref v0)]) rfl ?_
        exact J23 h v0 hf0
      · rw [if_neg c26] at hf0
        refine r_iload_n C dX12_value_18 rfl ?_
        refine r_iconst (v := 1) C dX12_value_19 (by decide) ?_
        refine r_icmp_le (tgt := 29) C dX12_value_20 (by decide) (fun c27 => ?_) (fun c27 => ?_)
        · rw [if_pos c27] at hf0
          refine r_aload_n C dX12_value_29 rfl ?_
          refine r_aload_n C dX12_value_30 rfl ?_
          obtain ⟨t28, e29, hf0⟩ := ob hf0
          refine r_getR C fk_X12_7 rfl dX12_value_31 e29 ?_
          refine r_iload_n C dX12_value_34 rfl ?_
          refine r_ifne (tgt := 43) C dX12_value_35 (by decide) (fun c30 => ?_) (fun c30 => ?_)
          · rw [if_neg c30] at hf0
            refine r_bipush (v := 32) C dX12_value_43 (by decide) ?_
            refine r_subk [1] (lv' := [(1, .int v1)]) rfl ?_
            exact J45 h v1 v0 t28 (32 : Int32) hf0
          · rw [if_pos c30] at hf0
            refine r_bipush (v := 8) C dX12_value_38 (by decide) ?_
            refine r_goto (tgt := 45) C dX12_value_40 (by decide) ?_
            refine r_subk [1] (lv' := [(1, .int v1)]) rfl ?_
            exact J45 h v1 v0 t28 (8 : Int32) hf0
        · rw [if_neg c27] at hf0
          refine r_subk [0] (lv' := [(0, .ref v0)]) rfl ?_
          exact J23 h v0 hf0
def f_X12_world_j36 (h : aH) (v0 : Nat) : Option (Int32 × aH) := (ck h 12 v0).bind fun _ => bd2 (f_X12_refuse h v0 (1 : Int32)) fun t1 h2 => some (t1, h2)
def f_X12_world (h : aH) (v0 : Nat) (v1 : Int32) (v2 : Int32) : Option (Int32 × aH) := (ck h 12 v0).bind fun _ => (f_X12_isWorld h v0 v1).bind fun t3 => if t3 = 0 then f_X12_world_j36 h v0 else if v2 < 0 then f_X12_world_j36 h v0 else (gR h 12 v0 0).bind fun t4 => (lI h t4 (0 : Int32)).bind fun t5 => if t5 ≤ v2 then f_X12_world_j36 h v0 else (ck h 12 v0).bind fun _ => (f_X12_valueIn h v0 (0 : Int32) v1 v2).bind fun t6 => (ck h 12 v0).bind fun _ => bd2 (f_X12_gives h v0 t6) fun t7 h8 => some (t7, h8)
theorem s_X12_world {h : aH} {v0 : Nat} {v1 : Int32} {v2 : Int32} {out : Int32 × aH} (hf0 : f_X12_world h v0 v1 v2 = some out) : EV 1 yX12_world cX12_world 3 (some .int) h [.ref v0, .int v1, .int v2] (some (.int out.1)) out.2 0 0 := by
  refine EV.of (own := RX12) (lv0 := [(0, .ref v0), (1, .int v1), (2, .int v2)]) (by decide +kernel) rfl rfl (Nat.le_of_ble_eq_true rfl) ?_
  intro p l e s m args below meth c D cA B Hb C hin
  unfold f_X12_world at hf0
  have J36 : ∀ (h1 : aH) (t2 : Nat), f_X12_world_j36 h1 t2 = some out → gW p l e (rmO 1 0 0) s m args below meth c (MQ below (eQ D cA B Hb out.2 (some (.int out.1))) args s 0 0 (fun q => B ≤ q)) D cA B Hb 3 h1 36 [(0, .ref t2)] [] 0 0 := by
    intro h1 t2 hf0
    unfold f_X12_world_j36 at hf0
    refine r_aload_n C dX12_world_36 rfl ?_
    refine r_iconst (v := 1) C dX12_world_37 (by decide) ?_
    obtain ⟨u4, e3, hf0⟩ := ob hf0
    obtain ⟨t5, h6, e7, hf0⟩ := ob2 hf0
    refine r_cV (ci := 12) (rest := []) (st2 := [.int t5]) C (s_X12_refuse e7) mk_X12_refuse rfl (ck_k e3) (by decide) im_X12_refuse sl_X12_refuse lk_X12_197 rfl rfl rfl dX12_world_38 (Nat.le_of_ble_eq_true rfl) ⟨Nat.le_of_ble_eq_true rfl, Nat.le_of_ble_eq_true rfl⟩ ⟨Nat.le_of_ble_eq_true rfl, Nat.le_of_ble_eq_true rfl⟩ ?_
    obtain rfl := so hf0
    exact r_iret C dX12_world_41
  refine r_aload_n C dX12_world_0 rfl ?_
  refine r_iload_n C dX12_world_1 rfl ?_
  obtain ⟨u9, e8, hf0⟩ := ob hf0
  obtain ⟨t10, e11, hf0⟩ := ob hf0
  refine r_cV (ci := 12) (rest := []) (st2 := [.int t10]) C (s_X12_isWorld e11) mk_X12_isWorld rfl (ck_k e8) (by decide) im_X12_isWorld sl_X12_isWorld lk_X12_328 rfl rfl rfl dX12_world_2 (Nat.le_of_ble_eq_true rfl) ⟨Nat.le_of_ble_eq_true rfl, Nat.le_of_ble_eq_true rfl⟩ ⟨Nat.le_of_ble_eq_true rfl, Nat.le_of_ble_eq_true rfl⟩ ?_
  refine r_ifeq (tgt := 36) C dX12_world_5 (by decide) (fun c12 => ?_) (fun c12 => ?_)
  · rw [if_pos c12] at hf0
    refine r_subk [0] (lv' := [(0, .ref v0)]) rfl ?_
    exact J36 h v0 hf0
  · rw [if_neg c12] at hf0
    refine r_iload_n C dX12_world_8 rfl ?_
    refine r_iflt (tgt := 36) C dX12_world_9 (by decide) (fun c13 => ?_) (fun c13 => ?_)
    · rw [if_pos c13] at hf0
      refine r_subk [0] (lv' := [(0, .ref v0)]) rfl ?_
      exact J36 h v0 hf0
    · rw [if_neg c13] at hf0
      refine r_iload_n C dX12_world_12 rfl ?_
      refine r_aload_n C dX12_world_13 rfl ?_
      obtain ⟨t14, e15, hf0⟩ := ob hf0
      refine r_getR C fk_X12_7 rfl dX12_world_14 e15 ?_
      refine r_iconst (v := 0) C dX12_world_17 (by decide) ?_
      obtain ⟨t16, e17, hf0⟩ := ob hf0
      refine r_ldI C dX12_world_18 e17 ?_
      refine r_icmp_ge (tgt := 36) C dX12_world_19 (by decide) (fun c18 => ?_) (fun c18 => ?_)
      · rw [if_pos c18] at hf0
        refine r_subk [0] (lv' := [(0, .ref v0)]) rfl ?_
        exact J36 h v0 hf0
      · rw [if_neg c18] at hf0
        refine r_aload_n C dX12_world_22 rfl ?_
        refine r_aload_n C dX12_world_23 rfl ?_
        refine r_iconst (v := 0) C dX12_world_24 (by decide) ?_
        refine r_iload_n C dX12_world_25 rfl ?_
        refine r_iload_n C dX12_world_26 rfl ?_
        obtain ⟨u20, e19, hf0⟩ := ob hf0
        obtain ⟨t21, e22, hf0⟩ := ob hf0
        refine r_cV (ci := 12) (rest := [.ref v0]) (st2 := [.int t21, .ref v0]) C (s_X12_valueIn e22) mk_X12_valueIn rfl (ck_k e19) (by decide) im_X12_valueIn sl_X12_valueIn lk_X12_234 rfl rfl rfl dX12_world_27 (Nat.le_of_ble_eq_true rfl) ⟨Nat.le_of_ble_eq_true rfl, Nat.le_of_ble_eq_true rfl⟩ ⟨Nat.le_of_ble_eq_true rfl, Nat.le_of_ble_eq_true rfl⟩ ?_
        obtain ⟨u24, e23, hf0⟩ := ob hf0
        obtain ⟨t25, h26, e27, hf0⟩ := ob2 hf0
        refine r_cV (ci := 12) (rest := []) (st2 := [.int t25]) C (s_X12_gives e27) mk_X12_gives rfl (ck_k e23) (by decide) im_X12_gives sl_X12_gives lk_X12_200 rfl rfl rfl dX12_world_30 (Nat.le_of_ble_eq_true rfl) ⟨Nat.le_of_ble_eq_true rfl, Nat.le_of_ble_eq_true rfl⟩ ⟨Nat.le_of_ble_eq_true rfl, Nat.le_of_ble_eq_true rfl⟩ ?_
        refine r_goto (tgt := 41) C dX12_world_33 (by decide) ?_
        obtain rfl := so hf0
        exact r_iret C dX12_world_41
def f_X12_possible_j22 (h : aH) (s0 : Nat) (s1 : Int32) : Option (Int32 × aH) := (ck h 12 s0).bind fun _ => bd2 (f_X12_gives h s0 s1) fun t1 h2 => some (t1, h2)
def f_X12_possible (h : aH) (v0 : Nat) (v1 : Int32) : Option (Int32 × aH) := (ck h 12 v0).bind fun _ => (f_X12_isWorld h v0 v1).bind fun t3 => if t3 = 0 then (ck h 12 v0).bind fun _ => bd2 (f_X12_refuse h v0 (1 : Int32)) fun t4 h5 => some (t4, h5) else (ck h 12 v0).bind fun _ => (f_X12_isPossible h v0 v1).bind fun t6 => if t6 = 0 then f_X12_possible_j22 h v0 (0 : Int32) else f_X12_possible_j22 h v0 (1 : Int32)
theorem s_X12_possible {h : aH} {v0 : Nat} {v1 : Int32} {out : Int32 × aH} (hf0 : f_X12_possible h v0 v1 = some out) : EV 2 yX12_possible cX12_possible 2 (some .int) h [.ref v0, .int v1] (some (.int out.1)) out.2 0 0 := by
  refine EV.of (own := RX12) (lv0 := [(0, .ref v0), (1, .int v1)]) (by decide +kernel) rfl rfl (Nat.le_of_ble_eq_true rfl) ?_
  intro p l e s m args below meth c D cA B Hb C hin
  unfold f_X12_possible at hf0
  have J22 : ∀ (h1 : aH) (t2 : Nat) (t3 : Int32), f_X12_possible_j22 h1 t2 t3 = some out → gW p l e (rmO 2 0 0) s m args below meth c (MQ below (eQ D cA B Hb out.2 (some (.int out.1))) args s 0 0 (fun q => B ≤ q)) D cA B Hb 2 h1 22 [] [.int t3, .ref t2] 0 0 := by
    intro h1 t2 t3 hf0
    unfold f_X12_possible_j22 at hf0
    obtain ⟨u5, e4, hf0⟩ := ob hf0
    obtain ⟨t6, h7, e8, hf0⟩ := ob2 hf0
    refine r_cV (ci := 12) (rest := []) (st2 := [.int t6]) C (s_X12_gives e8) mk_X12_gives rfl (ck_k e4) (by decide) im_X12_gives sl_X12_gives lk_X12_200 rfl rfl rfl dX12_possible_22 (Nat.le_of_ble_eq_true rfl) ⟨Nat.le_of_ble_eq_true rfl, Nat.le_of_ble_eq_true rfl⟩ ⟨Nat.le_of_ble_eq_true rfl, Nat.le_of_ble_eq_true rfl⟩ ?_
    refine r_goto (tgt := 33) C dX12_possible_25 (by decide) ?_
    obtain rfl := so hf0
    exact r_iret C dX12_possible_33
  refine r_aload_n C dX12_possible_0 rfl ?_
  refine r_iload_n C dX12_possible_1 rfl ?_
  obtain ⟨u10, e9, hf0⟩ := ob hf0
  obtain ⟨t11, e12, hf0⟩ := ob hf0
  refine r_cV (ci := 12) (rest := []) (st2 := [.int t11]) C (s_X12_isWorld e12) mk_X12_isWorld rfl (ck_k e9) (by decide) im_X12_isWorld sl_X12_isWorld lk_X12_328 rfl rfl rfl dX12_possible_2 (Nat.le_of_ble_eq_true rfl) ⟨Nat.le_of_ble_eq_true rfl, Nat.le_of_ble_eq_true rfl⟩ ⟨Nat.le_of_ble_eq_true rfl, Nat.le_of_ble_eq_true rfl⟩ ?_
  refine r_ifeq (tgt := 28) C dX12_possible_5 (by decide) (fun c13 => ?_) (fun c13 => ?_)
  · rw [if_pos c13] at hf0
    refine r_aload_n C dX12_possible_28 rfl ?_
    refine r_iconst (v := 1) C dX12_possible_29 (by decide) ?_
    obtain ⟨u15, e14, hf0⟩ := ob hf0
    obtain ⟨t16, h17, e18, hf0⟩ := ob2 hf0
    refine r_cV (ci := 12) (rest := []) (st2 := [.int t16]) C (s_X12_refuse e18) mk_X12_refuse rfl (ck_k e14) (by decide) im_X12_refuse sl_X12_refuse lk_X12_197 rfl rfl rfl dX12_possible_30 (Nat.le_of_ble_eq_true rfl) ⟨Nat.le_of_ble_eq_true rfl, Nat.le_of_ble_eq_true rfl⟩ ⟨Nat.le_of_ble_eq_true rfl, Nat.le_of_ble_eq_true rfl⟩ ?_
    obtain rfl := so hf0
    exact r_iret C dX12_possible_33
  · rw [if_neg c13] at hf0
    refine r_aload_n C dX12_possible_8 rfl ?_
    refine r_aload_n C dX12_possible_9 rfl ?_
    refine r_iload_n C dX12_possible_10 rfl ?_
    obtain ⟨u20, e19, hf0⟩ := ob hf0
    obtain ⟨t21, e22, hf0⟩ := ob hf0
    refine r_cV (ci := 12) (rest := [.ref v0]) (st2 := [.int t21, .ref v0]) C (s_X12_isPossible e22) mk_X12_isPossible rfl (ck_k e19) (by decide) im_X12_isPossible sl_X12_isPossible lk_X12_331 rfl rfl rfl dX12_possible_11 (Nat.le_of_ble_eq_true rfl) ⟨Nat.le_of_ble_eq_true rfl, Nat.le_of_ble_eq_true rfl⟩ ⟨Nat.le_of_ble_eq_true rfl, Nat.le_of_ble_eq_true rfl⟩ ?_
    refine r_ifeq (tgt := 21) C dX12_possible_14 (by decide) (fun c23 => ?_) (fun c23 => ?_)
    · rw [if_pos c23] at hf0
      refine r_iconst (v := 0) C dX12_possible_21 (by decide) ?_
      refine r_subk [] (lv' := []) rfl ?_
      exact J22 h v0 (0 : Int32) hf0
    · rw [if_neg c23] at hf0
      refine r_iconst (v := 1) C dX12_possible_17 (by decide) ?_
      refine r_goto (tgt := 22) C dX12_possible_18 (by decide) ?_
      refine r_subk [] (lv' := []) rfl ?_
      exact J22 h v0 (1 : Int32) hf0
def f_X12_holds_j37 (h : aH) (v0 : Nat) : Option (Int32 × aH) := (ck h 12 v0).bind fun _ => bd2 (f_X12_refuse h v0 (1 : Int32)) fun t1 h2 => some (t1, h2)
def f_X12_holds_j31 (h : aH) (s0 : Nat) (s1 : Int32) : Option (Int32 × aH) := (ck h 12 s0).bind fun _ => bd2 (f_X12_gives h s0 s1) fun t3 h4 => some (t3, h4)
def f_X12_holds (h : aH) (v0 : Nat) (v1 : Int32) (v2 : Int32) : Option (Int32 × aH) := (ck h 12 v0).bind fun _ => (f_X12_isQuestion h v0 v1).bind fun t5 => if t5 = 0 then f_X12_holds_j37 h v0 else (ck h 12 v0).bind fun _ => (f_X12_isWorld h v0 v2).bind fun t6 => if t6 = 0 then f_X12_holds_j37 h v0 else (ck h 12 v0).bind fun _ => (f_X12_isIn h v0 v1 v2).bind fun t7 => if t7 = 0 then f_X12_holds_j31 h v0 (0 : Int32) else f_X12_holds_j31 h v0 (1 : Int32)
theorem s_X12_holds {h : aH} {v0 : Nat} {v1 : Int32} {v2 : Int32} {out : Int32 × aH} (hf0 : f_X12_holds h v0 v1 v2 = some out) : EV 2 yX12_holds cX12_holds 3 (some .int) h [.ref v0, .int v1, .int v2] (some (.int out.1)) out.2 0 0 := by
  refine EV.of (own := RX12) (lv0 := [(0, .ref v0), (1, .int v1), (2, .int v2)]) (by decide +kernel) rfl rfl (Nat.le_of_ble_eq_true rfl) ?_
  intro p l e s m args below meth c D cA B Hb C hin
  unfold f_X12_holds at hf0
  have J37 : ∀ (h1 : aH) (t2 : Nat), f_X12_holds_j37 h1 t2 = some out → gW p l e (rmO 2 0 0) s m args below meth c (MQ below (eQ D cA B Hb out.2 (some (.int out.1))) args s 0 0 (fun q => B ≤ q)) D cA B Hb 3 h1 37 [(0, .ref t2)] [] 0 0 := by
    intro h1 t2 hf0
    unfold f_X12_holds_j37 at hf0
    refine r_aload_n C dX12_holds_37 rfl ?_
    refine r_iconst (v := 1) C dX12_holds_38 (by decide) ?_
    obtain ⟨u4, e3, hf0⟩ := ob hf0
    obtain ⟨t5, h6, e7, hf0⟩ := ob2 hf0
    refine r_cV (ci := 12) (rest := []) (st2 := [.int t5]) C (s_X12_refuse e7) mk_X12_refuse rfl (ck_k e3) (by decide) im_X12_refuse sl_X12_refuse lk_X12_197 rfl rfl rfl dX12_holds_39 (Nat.le_of_ble_eq_true rfl) ⟨Nat.le_of_ble_eq_true rfl, Nat.le_of_ble_eq_true rfl⟩ ⟨Nat.le_of_ble_eq_true rfl, Nat.le_of_ble_eq_true rfl⟩ ?_
    obtain rfl := so hf0
    exact r_iret C dX12_holds_42
  have J31 : ∀ (h8 : aH) (t9 : Nat) (t10 : Int32), f_X12_holds_j31 h8 t9 t10 = some out → gW p l e (rmO 2 0 0) s m args below meth c (MQ below (eQ D cA B Hb out.2 (some (.int out.1))) args s 0 0 (fun q => B ≤ q)) D cA B Hb 3 h8 31 [] [.int t10, .ref t9] 0 0 := by
    intro h8 t9 t10 hf0
    unfold f_X12_holds_j31 at hf0
    obtain ⟨u12, e11, hf0⟩ := ob hf0
    obtain ⟨t13, h14, e15, hf0⟩ := ob2 hf0
    refine r_cV (ci := 12) (rest := []) (st2 := [.int t13]) C (s_X12_gives e15) mk_X12_gives rfl (ck_k e11) (by decide) im_X12_gives sl_X12_gives lk_X12_200 rfl rfl rfl dX12_holds_31 (Nat.le_of_ble_eq_true rfl) ⟨Nat.le_of_ble_eq_true rfl, Nat.le_of_ble_eq_true rfl⟩ ⟨Nat.le_of_ble_eq_true rfl, Nat.le_of_ble_eq_true rfl⟩ ?_
    refine r_goto (tgt := 42) C dX12_holds_34 (by decide) ?_
    obtain rfl := so hf0
    exact r_iret C dX12_holds_42
  refine r_aload_n C dX12_holds_0 rfl ?_
  refine r_iload_n C dX12_holds_1 rfl ?_
  obtain ⟨u17, e16, hf0⟩ := ob hf0
  obtain ⟨t18, e19, hf0⟩ := ob hf0
  refine r_cV (ci := 12) (rest := []) (st2 := [.int t18]) C (s_X12_isQuestion e19) mk_X12_isQuestion rfl (ck_k e16) (by decide) im_X12_isQuestion sl_X12_isQuestion lk_X12_334 rfl rfl rfl dX12_holds_2 (Nat.le_of_ble_eq_true rfl) ⟨Nat.le_of_ble_eq_true rfl, Nat.le_of_ble_eq_true rfl⟩ ⟨Nat.le_of_ble_eq_true rfl, Nat.le_of_ble_eq_true rfl⟩ ?_
  refine r_ifeq (tgt := 37) C dX12_holds_5 (by decide) (fun c20 => ?_) (fun c20 => ?_)
  · rw [if_pos c20] at hf0
    refine r_subk [0] (lv' := [(0, .ref v0)]) rfl ?_
    exact J37 h v0 hf0
  · rw [if_neg c20] at hf0
    refine r_aload_n C dX12_holds_8 rfl ?_
    refine r_iload_n C dX12_holds_9 rfl ?_
    obtain ⟨u22, e21, hf0⟩ := ob hf0
    obtain ⟨t23, e24, hf0⟩ := ob hf0
    refine r_cV (ci := 12) (rest := []) (st2 := [.int t23]) C (s_X12_isWorld e24) mk_X12_isWorld rfl (ck_k e21) (by decide) im_X12_isWorld sl_X12_isWorld lk_X12_328 rfl rfl rfl dX12_holds_10 (Nat.le_of_ble_eq_true rfl) ⟨Nat.le_of_ble_eq_true rfl, Nat.le_of_ble_eq_true rfl⟩ ⟨Nat.le_of_ble_eq_true rfl, Nat.le_of_ble_eq_true rfl⟩ ?_
    refine r_ifeq (tgt := 37) C dX12_holds_13 (by decide) (fun c25 => ?_) (fun c25 => ?_)
    · rw [if_pos c25] at hf0
      refine r_subk [0] (lv' := [(0, .ref v0)]) rfl ?_
      exact J37 h v0 hf0
    · rw [if_neg c25] at hf0
      refine r_aload_n C dX12_holds_16 rfl ?_
      refine r_aload_n C dX12_holds_17 rfl ?_
      refine r_iload_n C dX12_holds_18 rfl ?_
      refine r_iload_n C dX12_holds_19 rfl ?_
      obtain ⟨u27, e26, hf0⟩ := ob hf0
      obtain ⟨t28, e29, hf0⟩ := ob hf0
      refine r_cV (ci := 12) (rest := [.ref v0]) (st2 := [.int t28, .ref v0]) C (s_X12_isIn e29) mk_X12_isIn rfl (ck_k e26) (by decide) im_X12_isIn sl_X12_isIn lk_X12_337 rfl rfl rfl dX12_holds_20 (Nat.le_of_ble_eq_true rfl) ⟨Nat.le_of_ble_eq_true rfl, Nat.le_of_ble_eq_true rfl⟩ ⟨Nat.le_of_ble_eq_true rfl, Nat.le_of_ble_eq_true rfl⟩ ?_
      refine r_ifeq (tgt := 30) C dX12_holds_23 (by decide) (fun c30 => ?_) (fun c30 => ?_)
      · rw [if_pos c30] at hf0
        refine r_iconst (v := 0) C dX12_holds_30 (by decide) ?_
        refine r_subk [] (lv' := []) rfl ?_
        exact J31 h v0 (0 : Int32) hf0
      · rw [if_neg c30] at hf0
        refine r_iconst (v := 1) C dX12_holds_26 (by decide) ?_
        refine r_goto (tgt := 31) C dX12_holds_27 (by decide) ?_
        refine r_subk [] (lv' := []) rfl ?_
        exact J31 h v0 (1 : Int32) hf0
def f_X12_fee (h : aH) (v0 : Nat) (v1 : Int32) : Option (Int32 × aH) := (ck h 12 v0).bind fun _ => (f_X12_isQuestion h v0 v1).bind fun t1 => if t1 = 0 then (ck h 12 v0).bind fun _ => bd2 (f_X12_refuse h v0 (1 : Int32)) fun t2 h3 => some (t2, h3) else (gR h 12 v0 0).bind fun t4 => (lI h t4 ((64 : Int32) + v1)).bind fun t5 => (ck h 12 v0).bind fun _ => bd2 (f_X12_gives h v0 t5) fun t6 h7 => some (t6, h7)
theorem s_X12_fee {h : aH} {v0 : Nat} {v1 : Int32} {out : Int32 × aH} (hf0 : f_X12_fee h v0 v1 = some out) : EV 1 yX12_fee cX12_fee 2 (some .int) h [.ref v0, .int v1] (some (.int out.1)) out.2 0 0 := by
  refine EV.of (own := RX12) (lv0 := [(0, .ref v0), (1, .int v1)]) (by decide +kernel) rfl rfl (Nat.le_of_ble_eq_true rfl) ?_
  intro p l e s m args below meth c D cA B Hb C hin
  unfold f_X12_fee at hf0
  refine r_aload_n C dX12_fee_0 rfl ?_
  refine r_iload_n C dX12_fee_1 rfl ?_
  obtain ⟨u2, e1, hf0⟩ := ob hf0
  obtain ⟨t3, e4, hf0⟩ := ob hf0
  refine r_cV (ci := 12) (rest := []) (st2 := [.int t3]) C (s_X12_isQuestion e4) mk_X12_isQuestion rfl (ck_k e1) (by decide) im_X12_isQuestion sl_X12_isQuestion lk_X12_334 rfl rfl rfl dX12_fee_2 (Nat.le_of_ble_eq_true rfl) ⟨Nat.le_of_ble_eq_true rfl, Nat.le_of_ble_eq_true rfl⟩ ⟨Nat.le_of_ble_eq_true rfl, Nat.le_of_ble_eq_true rfl⟩ ?_
  refine r_ifeq (tgt := 24) C dX12_fee_5 (by decide) (fun c5 => ?_) (fun c5 => ?_)
  · rw [if_pos c5] at hf0
    refine r_aload_n C dX12_fee_24 rfl ?_
    refine r_iconst (v := 1) C dX12_fee_25 (by decide) ?_
    obtain ⟨u7, e6, hf0⟩ := ob hf0
    obtain ⟨t8, h9, e10, hf0⟩ := ob2 hf0
    refine r_cV (ci := 12) (rest := []) (st2 := [.int t8]) C (s_X12_refuse e10) mk_X12_refuse rfl (ck_k e6) (by decide) im_X12_refuse sl_X12_refuse lk_X12_197 rfl rfl rfl dX12_fee_26 (Nat.le_of_ble_eq_true rfl) ⟨Nat.le_of_ble_eq_true rfl, Nat.le_of_ble_eq_true rfl⟩ ⟨Nat.le_of_ble_eq_true rfl, Nat.le_of_ble_eq_true rfl⟩ ?_
    obtain rfl := so hf0
    exact r_iret C dX12_fee_29
  · rw [if_neg c5] at hf0
    refine r_aload_n C dX12_fee_8 rfl ?_
    refine r_aload_n C dX12_fee_9 rfl ?_
    obtain ⟨t11, e12, hf0⟩ := ob hf0
    refine r_getR C fk_X12_7 rfl dX12_fee_10 e12 ?_
    refine r_bipush (v := 64) C dX12_fee_13 (by decide) ?_
    refine r_iload_n C dX12_fee_15 rfl ?_
    refine r_iadd C dX12_fee_16 ?_
    obtain ⟨t13, e14, hf0⟩ := ob hf0
    refine r_ldI C dX12_fee_17 e14 ?_
    obtain ⟨u16, e15, hf0⟩ := ob hf0
    obtain ⟨t17, h18, e19, hf0⟩ := ob2 hf0
    refine r_cV (ci := 12) (rest := []) (st2 := [.int t17]) C (s_X12_gives e19) mk_X12_gives rfl (ck_k e15) (by decide) im_X12_gives sl_X12_gives lk_X12_200 rfl rfl rfl dX12_fee_18 (Nat.le_of_ble_eq_true rfl) ⟨Nat.le_of_ble_eq_true rfl, Nat.le_of_ble_eq_true rfl⟩ ⟨Nat.le_of_ble_eq_true rfl, Nat.le_of_ble_eq_true rfl⟩ ?_
    refine r_goto (tgt := 29) C dX12_fee_21 (by decide) ?_
    obtain rfl := so hf0
    exact r_iret C dX12_fee_29
def f_X12_witness_j30 (h : aH) (v0 : Nat) : Option (Int32 × aH) := (ck h 12 v0).bind fun _ => bd2 (f_X12_refuse h v0 (1 : Int32)) fun t1 h2 => some (t1, h2)
def f_X12_witness (h : aH) (v0 : Nat) (v1 : Int32) (v2 : Int32) : Option (Int32 × aH) := (ck h 12 v0).bind fun _ => (f_X12_isWitness h v0 v1).bind fun t3 => if t3 = 0 then f_X12_witness_j30 h v0 else if v2 < 0 then f_X12_witness_j30 h v0 else if (5 : Int32) < v2 then f_X12_witness_j30 h v0 else (ck h 12 v0).bind fun _ => (f_X12_ofWitness h v0 v1 v2).bind fun t4 => (ck h 12 v0).bind fun _ => bd2 (f_X12_gives h v0 t4) fun t5 h6 => some (t5, h6)
theorem s_X12_witness {h : aH} {v0 : Nat} {v1 : Int32} {v2 : Int32} {out : Int32 × aH} (hf0 : f_X12_witness h v0 v1 v2 = some out) : EV 1 yX12_witness cX12_witness 3 (some .int) h [.ref v0, .int v1, .int v2] (some (.int out.1)) out.2 0 0 := by
  refine EV.of (own := RX12) (lv0 := [(0, .ref v0), (1, .int v1), (2, .int v2)]) (by decide +kernel) rfl rfl (Nat.le_of_ble_eq_true rfl) ?_
  intro p l e s m args below meth c D cA B Hb C hin
  unfold f_X12_witness at hf0
  have J30 : ∀ (h1 : aH) (t2 : Nat), f_X12_witness_j30 h1 t2 = some out → gW p l e (rmO 1 0 0) s m args below meth c (MQ below (eQ D cA B Hb out.2 (some (.int out.1))) args s 0 0 (fun q => B ≤ q)) D cA B Hb 3 h1 30 [(0, .ref t2)] [] 0 0 := by
    intro h1 t2 hf0
    unfold f_X12_witness_j30 at hf0
    refine r_aload_n C dX12_witness_30 rfl ?_
    refine r_iconst (v := 1) C dX12_witness_31 (by decide) ?_
    obtain ⟨u4, e3, hf0⟩ := ob hf0
    obtain ⟨t5, h6, e7, hf0⟩ := ob2 hf0
    refine r_cV (ci := 12) (rest := []) (st2 := [.int t5]) C (s_X12_refuse e7) mk_X12_refuse rfl (ck_k e3) (by decide) im_X12_refuse sl_X12_refuse lk_X12_197 rfl rfl rfl dX12_witness_32 (Nat.le_of_ble_eq_true rfl) ⟨Nat.le_of_ble_eq_true rfl, Nat.le_of_ble_eq_true rfl⟩ ⟨Nat.le_of_ble_eq_true rfl, Nat.le_of_ble_eq_true rfl⟩ ?_
    obtain rfl := so hf0
    exact r_iret C dX12_witness_35
  refine r_aload_n C dX12_witness_0 rfl ?_
  refine r_iload_n C dX12_witness_1 rfl ?_
  obtain ⟨u9, e8, hf0⟩ := ob hf0
  obtain ⟨t10, e11, hf0⟩ := ob hf0
  refine r_cV (ci := 12) (rest := []) (st2 := [.int t10]) C (s_X12_isWitness e11) mk_X12_isWitness rfl (ck_k e8) (by decide) im_X12_isWitness sl_X12_isWitness lk_X12_340 rfl rfl rfl dX12_witness_2 (Nat.le_of_ble_eq_true rfl) ⟨Nat.le_of_ble_eq_true rfl, Nat.le_of_ble_eq_true rfl⟩ ⟨Nat.le_of_ble_eq_true rfl, Nat.le_of_ble_eq_true rfl⟩ ?_
  refine r_ifeq (tgt := 30) C dX12_witness_5 (by decide) (fun c12 => ?_) (fun c12 => ?_)
  · rw [if_pos c12] at hf0
    refine r_subk [0] (lv' := [(0, .ref v0)]) rfl ?_
    exact J30 h v0 hf0
  · rw [if_neg c12] at hf0
    refine r_iload_n C dX12_witness_8 rfl ?_
    refine r_iflt (tgt := 30) C dX12_witness_9 (by decide) (fun c13 => ?_) (fun c13 => ?_)
    · rw [if_pos c13] at hf0
      refine r_subk [0] (lv' := [(0, .ref v0)]) rfl ?_
      exact J30 h v0 hf0
    · rw [if_neg c13] at hf0
      refine r_iload_n C dX12_witness_12 rfl ?_
      refine r_iconst (v := 5) C dX12_witness_13 (by decide) ?_
      refine r_icmp_gt (tgt := 30) C dX12_witness_14 (by decide) (fun c14 => ?_) (fun c14 => ?_)
      · rw [if_pos c14] at hf0
        refine r_subk [0] (lv' := [(0, .ref v0)]) rfl ?_
        exact J30 h v0 hf0
      · rw [if_neg c14] at hf0
        refine r_aload_n C dX12_witness_17 rfl ?_
        refine r_aload_n C dX12_witness_18 rfl ?_
        refine r_iload_n C dX12_witness_19 rfl ?_
        refine r_iload_n C dX12_witness_20 rfl ?_
        obtain ⟨u16, e15, hf0⟩ := ob hf0
        obtain ⟨t17, e18, hf0⟩ := ob hf0
        refine r_cV (ci := 12) (rest := [.ref v0]) (st2 := [.int t17, .ref v0]) C (s_X12_ofWitness e18) mk_X12_ofWitness rfl (ck_k e15) (by decide) im_X12_ofWitness sl_X12_ofWitness lk_X12_343 rfl rfl rfl dX12_witness_21 (Nat.le_of_ble_eq_true rfl) ⟨Nat.le_of_ble_eq_true rfl, Nat.le_of_ble_eq_true rfl⟩ ⟨Nat.le_of_ble_eq_true rfl, Nat.le_of_ble_eq_true rfl⟩ ?_
        obtain ⟨u20, e19, hf0⟩ := ob hf0
        obtain ⟨t21, h22, e23, hf0⟩ := ob2 hf0
        refine r_cV (ci := 12) (rest := []) (st2 := [.int t21]) C (s_X12_gives e23) mk_X12_gives rfl (ck_k e19) (by decide) im_X12_gives sl_X12_gives lk_X12_200 rfl rfl rfl dX12_witness_24 (Nat.le_of_ble_eq_true rfl) ⟨Nat.le_of_ble_eq_true rfl, Nat.le_of_ble_eq_true rfl⟩ ⟨Nat.le_of_ble_eq_true rfl, Nat.le_of_ble_eq_true rfl⟩ ?_
        refine r_goto (tgt := 35) C dX12_witness_27 (by decide) ?_
        obtain rfl := so hf0
        exact r_iret C dX12_witness_35
def f_X12_saysAs (h : aH) (v0 : Nat) (v1 : Int32) (v2 : Int32) (v3 : Int32) (v4 : Int32) : Option (Int32) := (gR h 12 v0 31).bind fun t1 => (lI h t1 (((4 : Int32) * (((256 : Int32) * (((12 : Int32) * v1) + v2)) + v3)) + v4)).bind fun t2 => some t2
theorem s_X12_saysAs {h : aH} {v0 : Nat} {v1 : Int32} {v2 : Int32} {v3 : Int32} {v4 : Int32} {out : Int32} (hf0 : f_X12_saysAs h v0 v1 v2 v3 v4 = some out) : EV 0 yX12_saysAs cX12_saysAs 5 (some .int) h [.ref v0, .int v1, .int v2, .int v3, .int v4] (some (.int out)) h 0 0 := by
  refine EV.of (own := RX12) (lv0 := [(0, .ref v0), (1, .int v1), (2, .int v2), (3, .int v3), (4, .int v4)]) (by decide +kernel) rfl rfl (Nat.le_of_ble_eq_true rfl) ?_
  intro p l e s m args below meth c D cA B Hb C hin
  unfold f_X12_saysAs at hf0
  refine r_aload_n C dX12_saysAs_0 rfl ?_
  obtain ⟨t1, e2, hf0⟩ := ob hf0
  refine r_getR C fk_X12_60 rfl dX12_saysAs_1 e2 ?_
  refine r_iconst (v := 4) C dX12_saysAs_4 (by decide) ?_
  refine r_sipush (v := 256) C dX12_saysAs_5 (by decide) ?_
  refine r_bipush (v := 12) C dX12_saysAs_8 (by decide) ?_
  refine r_iload_n C dX12_saysAs_10 rfl ?_
  refine r_imul C dX12_saysAs_11 ?_
  refine r_iload_n C dX12_saysAs_12 rfl ?_
  refine r_iadd C dX12_saysAs_13 ?_
  refine r_imul C dX12_saysAs_14 ?_
  refine r_iload_n C dX12_saysAs_15 rfl ?_
  refine r_iadd C dX12_saysAs_16 ?_
  refine r_imul C dX12_saysAs_17 ?_
  refine r_iload C dX12_saysAs_18 rfl ?_
  refine r_iadd C dX12_saysAs_20 ?_
  obtain ⟨t3, e4, hf0⟩ := ob hf0
  refine r_ldI C dX12_saysAs_21 e4 ?_
  obtain rfl := so hf0
  exact r_iret C dX12_saysAs_22
def f_X12_answer_j32 (h : aH) (v0 : Nat) : Option (Int32 × aH) := (ck h 12 v0).bind fun _ => bd2 (f_X12_refuse h v0 (1 : Int32)) fun t1 h2 => some (t1, h2)
def f_X12_answer (h : aH) (v0 : Nat) (v1 : Int32) (v2 : Int32) (v3 : Int32) (v4 : Int32) : Option (Int32 × aH) := (ck h 12 v0).bind fun _ => (f_X12_isWitness h v0 v1).bind fun t3 => if t3 = 0 then f_X12_answer_j32 h v0 else (ck h 12 v0).bind fun _ => (f_X12_isQuestion h v0 v2).bind fun t4 => if t4 = 0 then f_X12_answer_j32 h v0 else (ck h 12 v0).bind fun _ => (f_X12_isWorld h v0 v3).bind fun t5 => if t5 = 0 then f_X12_answer_j32 h v0 else (f_X12_isKind h v4).bind fun t6 => if t6 = 0 then f_X12_answer_j32 h v0 else (ck h 12 v0).bind fun _ => (f_X12_isPossible h v0 v3).bind fun t7 => if t7 = 0 then (ck h 12 v0).bind fun _ => bd2 (f_X12_refuse h v0 (7 : Int32)) fun t8 h9 => some (t8, h9) else (ck h 12 v0).bind fun _ => (f_X12_saysAs h v0 v1 v2 v3 v4).bind fun t10 => (ck h 12 v0).bind fun _ => bd2 (f_X12_gives h v0 t10) fun t11 h12 => some (t11, h12)
theorem s_X12_answer {h : aH} {v0 : Nat} {v1 : Int32} {v2 : Int32} {v3 : Int32} {v4 : Int32} {out : Int32 × aH} (hf0 : f_X12_answer h v0 v1 v2 v3 v4 = some out) : EV 2 yX12_answer cX12_answer 5 (some .int) h [.ref v0, .int v1, .int v2, .int v3, .int v4] (some (.int out.1)) out.2 0 0 := by
  refine EV.of (own := RX12) (lv0 := [(0, .ref v0), (1, .int v1), (2, .int v2), (3, .int v3), (4, .int v4)]) (by decide +kernel) rfl rfl (Nat.le_of_ble_eq_true rfl) ?_
  intro p l e s m args below meth c D cA B Hb C hin
  unfold f_X12_answer at hf0
  have J32 : ∀ (h1 : aH) (t2 : Nat), f_X12_answer_j32 h1 t2 = some out → gW p l e (rmO 2 0 0) s m args below meth c (MQ below (eQ D cA B Hb out.2 (some (.int out.1))) args s 0 0 (fun q => B ≤ q)) D cA B Hb 5 h1 32 [(0, .ref t2)] [] 0 0 := by
    intro h1 t2 hf0
    unfold f_X12_answer_j32 at hf0
    refine r_aload_n C dX12_answer_32 rfl ?_
    refine r_iconst (v := 1) C dX12_answer_33 (by decide) ?_
    obtain ⟨u4, e3, hf0⟩ := ob hf0
    obtain ⟨t5, h6, e7, hf0⟩ := ob2 hf0
    refine r_cV (ci := 12) (rest := []) (st2 := [.int t5]) C (s_X12_refuse e7) mk_X12_refuse rfl (ck_k e3) (by decide) im_X12_refuse sl_X12_refuse lk_X12_197 rfl rfl rfl dX12_answer_34 (Nat.le_of_ble_eq_true rfl) ⟨Nat.le_of_ble_eq_true rfl, Nat.le_of_ble_eq_true rfl⟩ ⟨Nat.le_of_ble_eq_true rfl, Nat.le_of_ble_eq_true rfl⟩ ?_
    obtain rfl := so hf0
    exact r_iret C dX12_answer_37
  refine r_aload_n C dX12_answer_0 rfl ?_
  refine r_iload_n C dX12_answer_1 rfl ?_
  obtain ⟨u9, e8, hf0⟩ := ob hf0
  obtain ⟨t10, e11, hf0⟩ := ob hf0
  refine r_cV (ci := 12) (rest := []) (st2 := [.int t10]) C (s_X12_isWitness e11) mk_X12_isWitness rfl (ck_k e8) (by decide) im_X12_isWitness sl_X12_isWitness lk_X12_340 rfl rfl rfl dX12_answer_2 (Nat.le_of_ble_eq_true rfl) ⟨Nat.le_of_ble_eq_true rfl, Nat.le_of_ble_eq_true rfl⟩ ⟨Nat.le_of_ble_eq_true rfl, Nat.le_of_ble_eq_true rfl⟩ ?_
  refine r_ifeq (tgt := 32) C dX12_answer_5 (by decide) (fun c12 => ?_) (fun c12 => ?_)
  · rw [if_pos c12] at hf0
    refine r_subk [0] (lv' := [(0, .ref v0)]) rfl ?_
    exact J32 h v0 hf0
  · rw [if_neg c12] at hf0
    refine r_aload_n C dX12_answer_8 rfl ?_
    refine r_iload_n C dX12_answer_9 rfl ?_
    obtain ⟨u14, e13, hf0⟩ := ob hf0
    obtain ⟨t15, e16, hf0⟩ := ob hf0
    refine r_cV (ci := 12) (rest := []) (st2 := [.int t15]) C (s_X12_isQuestion e16) mk_X12_isQuestion rfl (ck_k e13) (by decide) im_X12_isQuestion sl_X12_isQuestion lk_X12_334 rfl rfl rfl dX12_answer_10 (Nat.le_of_ble_eq_true rfl) ⟨Nat.le_of_ble_eq_true rfl, Nat.le_of_ble_eq_true rfl⟩ ⟨Nat.le_of_ble_eq_true rfl, Nat.le_of_ble_eq_true rfl⟩ ?_
    refine r_ifeq (tgt := 32) C dX12_answer_13 (by decide) (fun c17 => ?_) (fun c17 => ?_)
    · rw [if_pos c17] at hf0
      refine r_subk [0] (lv' := [(0, .ref v0)]) rfl ?_
      exact J32 h v0 hf0
    · rw [if_neg c17] at hf0
      refine r_aload_n C dX12_answer_16 rfl ?_
      refine r_iload_n C dX12_answer_17 rfl ?_
      obtain ⟨u19, e18, hf0⟩ := ob hf0
      obtain ⟨t20, e21, hf0⟩ := ob hf0
      refine r_cV (ci := 12) (rest := []) (st2 := [.int t20]) C (s_X12_isWorld e21) mk_X12_isWorld rfl (ck_k e18) (by decide) im_X12_isWorld sl_X12_isWorld lk_X12_328 rfl rfl rfl dX12_answer_18 (Nat.le_of_ble_eq_true rfl) ⟨Nat.le_of_ble_eq_true rfl, Nat.le_of_ble_eq_true rfl⟩ ⟨Nat.le_of_ble_eq_true rfl, Nat.le_of_ble_eq_true rfl⟩ ?_
      refine r_ifeq (tgt := 32) C dX12_answer_21 (by decide) (fun c22 => ?_) (fun c22 => ?_)
      · rw [if_pos c22] at hf0
        refine r_subk [0] (lv' := [(0, .ref v0)]) rfl ?_
        exact J32 h v0 hf0
      · rw [if_neg c22] at hf0
        refine r_iload C dX12_answer_24 rfl ?_
        obtain ⟨t23, e24, hf0⟩ := ob hf0
        refine r_cS (rest := []) (st2 := [.int t23]) C (s_X12_isKind e24) mk_X12_isKind sm_X12_isKind lk_X12_365 rfl rfl rfl dX12_answer_26 (Nat.le_of_ble_eq_true rfl) ⟨Nat.le_of_ble_eq_true rfl, Nat.le_of_ble_eq_true rfl⟩ ⟨Nat.le_of_ble_eq_true rfl, Nat.le_of_ble_eq_true rfl⟩ ?_
        refine r_ifne (tgt := 38) C dX12_answer_29 (by decide) (fun c25 => ?_) (fun c25 => ?_)
        · rw [if_neg c25] at hf0
          refine r_aload_n C dX12_answer_38 rfl ?_
          refine r_iload_n C dX12_answer_39 rfl ?_
          obtain ⟨u27, e26, hf0⟩ := ob hf0
          obtain ⟨t28, e29, hf0⟩ := ob hf0
          refine r_cV (ci := 12) (rest := []) (st2 := [.int t28]) C (s_X12_isPossible e29) mk_X12_isPossible rfl (ck_k e26) (by decide) im_X12_isPossible sl_X12_isPossible lk_X12_331 rfl rfl rfl dX12_answer_40 (Nat.le_of_ble_eq_true rfl) ⟨Nat.le_of_ble_eq_true rfl, Nat.le_of_ble_eq_true rfl⟩ ⟨Nat.le_of_ble_eq_true rfl, Nat.le_of_ble_eq_true rfl⟩ ?_
          refine r_ifeq (tgt := 62) C dX12_answer_43 (by decide) (fun c30 => ?_) (fun c30 => ?_)
          · rw [if_pos c30] at hf0
            refine r_aload_n C dX12_answer_62 rfl ?_
            refine r_bipush (v := 7) C dX12_answer_63 (by decide) ?_
            obtain ⟨u32, e31, hf0⟩ := ob hf0
            obtain ⟨t33, h34, e35, hf0⟩ := ob2 hf0
            refine r_cV (ci := 12) (rest := []) (st2 := [.int t33]) C (s_X12_refuse e35) mk_X12_refuse rfl (ck_k e31) (by decide) im_X12_refuse sl_X12_refuse lk_X12_197 rfl rfl rfl dX12_answer_65 (Nat.le_of_ble_eq_true rfl) ⟨Nat.le_of_ble_eq_true rfl, Nat.le_of_ble_eq_true rfl⟩ ⟨Nat.le_of_ble_eq_true rfl, Nat.le_of_ble_eq_true rfl⟩ ?_
            obtain rfl := so hf0
            exact r_iret C dX12_answer_68
          · rw [if_neg c30] at hf0
            refine r_aload_n C dX12_answer_46 rfl ?_
            refine r_aload_n C dX12_answer_47 rfl ?_
            refine r_iload_n C dX12_answer_48 rfl ?_
            refine r_iload_n C dX12_answer_49 rfl ?_
            refine r_iload_n C dX12_answer_50 rfl ?_
            refine r_iload C dX12_answer_51 rfl ?_
            obtain ⟨u37, e36, hf0⟩ := ob hf0
            obtain ⟨t38, e39, hf0⟩ := ob hf0
            refine r_cV (ci := 12) (rest := [.ref v0]) (st2 := [.int t38, .ref v0]) C (s_X12_saysAs e39) mk_X12_saysAs rfl (ck_k e36) (by decide) im_X12_saysAs sl_X12_saysAs lk_X12_368 rfl rfl rfl dX12_answer_53 (Nat.le_of_ble_eq_true rfl) ⟨Nat.le_of_ble_eq_true rfl, Nat.le_of_ble_eq_true rfl⟩ ⟨Nat.le_of_ble_eq_true rfl, Nat.le_of_ble_eq_true rfl⟩ ?_
            obtain ⟨u41, e40, hf0⟩ := ob hf0
            obtain ⟨t42, h43, e44, hf0⟩ := ob2 hf0
            refine r_cV (ci := 12) (rest := []) (st2 := [.int t42]) C (s_X12_gives e44) mk_X12_gives rfl (ck_k e40) (by decide) im_X12_gives sl_X12_gives lk_X12_200 rfl rfl rfl dX12_answer_56 (Nat.le_of_ble_eq_true rfl) ⟨Nat.le_of_ble_eq_true rfl, Nat.le_of_ble_eq_true rfl⟩ ⟨Nat.le_of_ble_eq_true rfl, Nat.le_of_ble_eq_true rfl⟩ ?_
            refine r_goto (tgt := 68) C dX12_answer_59 (by decide) ?_
            obtain rfl := so hf0
            exact r_iret C dX12_answer_68
        · rw [if_pos c25] at hf0
          refine r_subk [0] (lv' := [(0, .ref v0)]) rfl ?_
          exact J32 h v0 hf0
def f_X12_mayBe_j26 (h : aH) (v0 : Nat) (v1 : Int32) (v3 : Int32) (s0 : Int32) (s1 : Int32) : Option ((Int32 × Int32) ⊕ (Int32)) := (some (s0 ||| s1)).bind fun t1 => (some (v3 + (1 : Int32))).bind fun t2 => some (.inl (t1, t2))
def f_X12_mayBe_b4 (h : aH) (v0 : Nat) (v1 : Int32) (v2 : Int32) (v3 : Int32) : Option ((Int32 × Int32) ⊕ (Int32)) := if (4 : Int32) ≤ v3 then some (.inr v2) else (ck h 12 v0).bind fun _ => (f_X12_ofWitness h v0 v1 v3).bind fun t3 => if t3 ≤ 0 then f_X12_mayBe_j26 h v0 v1 v3 v2 (0 : Int32) else f_X12_mayBe_j26 h v0 v1 v3 v2 ((1 : Int32) <<< (v3 &&& 31))
def f_X12_mayBe_l4 (h : aH) (v0 : Nat) (v1 : Int32) (v2 : Int32) (v3 : Int32) : Option (Int32) := whileL wN (fun q : Int32 × Int32 => f_X12_mayBe_b4 h v0 v1 q.1 q.2) (v2, v3)
def f_X12_mayBe (h : aH) (v0 : Nat) (v1 : Int32) : Option (Int32) := (f_X12_mayBe_l4 h v0 v1 (0 : Int32) (0 : Int32)).bind fun t4 => some t4
theorem s_X12_mayBe {h : aH} {v0 : Nat} {v1 : Int32} {out : Int32} (hf0 : f_X12_mayBe h v0 v1 = some out) : EV 1 yX12_mayBe cX12_mayBe 4 (some .int) h [.ref v0, .int v1] (some (.int out)) h 0 0 := by
  refine EV.of (own := RX12) (lv0 := [(0, .ref v0), (1, .int v1)]) (by decide +kernel) rfl rfl (Nat.le_of_ble_eq_true rfl) ?_
  intro p l e s m args below meth c D cA B Hb C hin
  unfold f_X12_mayBe at hf0
  refine r_iconst (v := 0) C dX12_mayBe_0 (by decide) ?_
  refine r_istore_n (lv' := [(2, .int (0 : Int32)), (0, .ref v0), (1, .int v1)]) C dX12_mayBe_1 (by decide) rfl rfl ?_
  refine r_iconst (v := 0) C dX12_mayBe_2 (by decide) ?_
  refine r_istore_n (lv' := [(3, .int (0 : Int32)), (2, .int (0 : Int32)), (0, .ref v0), (1, .int v1)]) C dX12_mayBe_3 (by decide) rfl rfl ?_
  obtain ⟨y1, hl4, hf0⟩ := ob hf0
  have L4 : ∀ (n : Nat) (t2 : Int32) (t3 : Int32), whileL n (fun q : Int32 × Int32 => f_X12_mayBe_b4 h v0 v1 q.1 q.2) (t2, t3) = some y1 → gW p l e (rmO 1 0 0) s m args below meth c (MQ below (eQ D cA B Hb h (some (.int out))) args s 0 0 (fun q => B ≤ q)) D cA B Hb 4 h 4 [(0, .ref v0), (1, .int v1), (2, .int t2), (3, .int t3)] [] 0 0 := by
    intro n
    induction n with
    | zero => intro t2 t3 hz; cases hz
    | succ n ih4 =>
      intro t2 t3 hz
      obtain ⟨x4, hf1, hk4⟩ := wl hz
      replace hf1 : f_X12_mayBe_b4 h v0 v1 t2 t3 = some x4 := hf1
      unfold f_X12_mayBe_b4 at hf1
      have J26 : ∀ (t4 : Int32) (t5 : Int32) (t6 : Int32), f_X12_mayBe_j26 h v0 v1 t4 t5 t6 = some x4 → gW p l e (rmO 1 0 0) s m args below meth c (MQ below (eQ D cA B Hb h (some (.int out))) args s 0 0 (fun q => B ≤ q)) D cA B Hb 4 h 26 [(0, .ref v0), (1, .int v1), (3, .int t4)] [.int t6, .int t5] 0 0 := by
        intro t4 t5 t6 hf1
        unfold f_X12_mayBe_j26 at hf1
        refine r_ior C dX12_mayBe_26 ?_
        obtain ⟨t7, e8, hf1⟩ := ob hf1
        refine r_istore_n (lv' := [(2, .int t7), (0, .ref v0), (1, .int v1), (3, .int t4)]) C dX12_mayBe_27 (by decide) e8 rfl ?_
        obtain ⟨t9, e10, hf1⟩ := ob hf1
        refine r_iinc (lv' := [(3, .int t9), (2, .int t7), (0, .ref v0), (1, .int v1)]) C dX12_mayBe_28 rfl e10 (by decide) rfl ?_
        refine r_goto (tgt := 4) C dX12_mayBe_31 (by decide) ?_
        obtain rfl := so hf1
        refine r_subk [2, 3, 1, 0] (lv' := [(0, .ref v0), (1, .int v1), (2, .int t7), (3, .int t9)]) rfl ?_
        exact ih4 t7 t9 hk4
      refine r_iload_n C dX12_mayBe_4 rfl ?_
      refine r_iconst (v := 4) C dX12_mayBe_5 (by decide) ?_
      refine r_icmp_ge (tgt := 34) C dX12_mayBe_6 (by decide) (fun c11 => ?_) (fun c11 => ?_)
      · rw [if_pos c11] at hf1
        obtain rfl := so hf1
        obtain rfl := so (show some t2 = some y1 from hk4)
        refine r_iload_n C dX12_mayBe_34 rfl ?_
        obtain rfl := so hf0
        exact r_iret C dX12_mayBe_35
      · rw [if_neg c11] at hf1
        refine r_iload_n C dX12_mayBe_9 rfl ?_
        refine r_aload_n C dX12_mayBe_10 rfl ?_
        refine r_iload_n C dX12_mayBe_11 rfl ?_
        refine r_iload_n C dX12_mayBe_12 rfl ?_
        obtain ⟨u13, e12, hf1⟩ := ob hf1
        obtain ⟨t14, e15, hf1⟩ := ob hf1
        refine r_cV (ci := 12) (rest := [.int t2]) (st2 := [.int t14, .int t2]) C (s_X12_ofWitness e15) mk_X12_ofWitness rfl (ck_k e12) (by decide) im_X12_ofWitness sl_X12_ofWitness lk_X12_343 rfl rfl rfl dX12_mayBe_13 (Nat.le_of_ble_eq_true rfl) ⟨Nat.le_of_ble_eq_true rfl, Nat.le_of_ble_eq_true rfl⟩ ⟨Nat.le_of_ble_eq_true rfl, Nat.le_of_ble_eq_true rfl⟩ ?_
        refine r_ifle (tgt := 25) C dX12_mayBe_16 (by decide) (fun c16 => ?_) (fun c16 => ?_)
        · rw [if_pos c16] at hf1
          refine r_iconst (v := 0) C dX12_mayBe_25 (by decide) ?_
          refine r_subk [0, 1, 3] (lv' := [(0, .ref v0), (1, .int v1), (3, .int t3)]) rfl ?_
          exact J26 t3 t2 (0 : Int32) hf1
        · rw [if_neg c16] at hf1
          refine r_iconst (v := 1) C dX12_mayBe_19 (by decide) ?_
          refine r_iload_n C dX12_mayBe_20 rfl ?_
          refine r_ishl C dX12_mayBe_21 ?_
          refine r_goto (tgt := 26) C dX12_mayBe_22 (by decide) ?_
          refine r_subk [0, 1, 3] (lv' := [(0, .ref v0), (1, .int v1), (3, .int t3)]) rfl ?_
          exact J26 t3 t2 ((1 : Int32) <<< (t3 &&& 31)) hf1
  refine r_subk [2, 3, 1, 0] (lv' := [(0, .ref v0), (1, .int v1), (2, .int (0 : Int32)), (3, .int (0 : Int32))]) rfl ?_
  exact L4 wN (0 : Int32) (0 : Int32) hl4
def f_X12_kindsFor_j36 (h : aH) (v0 : Nat) (v1 : Int32) (v2 : Int32) (v3 : Int32) (v4 : Int32) (v6 : Int32) (s0 : Int32) (s1 : Int32) : Option ((Int32 × Int32) ⊕ (Int32)) := (some (s0 ||| s1)).bind fun t1 => (some (v6 + (1 : Int32))).bind fun t2 => some (.inl (t1, t2))
def f_X12_kindsFor_b6 (h : aH) (v0 : Nat) (v1 : Int32) (v2 : Int32) (v3 : Int32) (v4 : Int32) (v5 : Int32) (v6 : Int32) : Option ((Int32 × Int32) ⊕ (Int32)) := if (4 : Int32) ≤ v6 then some (.inr v5) else (ck h 12 v0).bind fun _ => (f_X12_saysAs h v0 v1 v2 v3 v6).bind fun t3 => if t3 = v4 then f_X12_kindsFor_j36 h v0 v1 v2 v3 v4 v6 v5 ((1 : Int32) <<< (v6 &&& 31)) else f_X12_kindsFor_j36 h v0 v1 v2 v3 v4 v6 v5 (0 : Int32)
def f_X12_kindsFor_l6 (h : aH) (v0 : Nat) (v1 : Int32) (v2 : Int32) (v3 : Int32) (v4 : Int32) (v5 : Int32) (v6 : Int32) : Option (Int32) := whileL wN (fun q : Int32 × Int32 => f_X12_kindsFor_b6 h v0 v1 v2 v3 v4 q.1 q.2) (v5, v6)
def f_X12_kindsFor (h : aH) (v0 : Nat) (v1 : Int32) (v2 : Int32) (v3 : Int32) (v4 : Int32) : Option (Int32) := (f_X12_kindsFor_l6 h v0 v1 v2 v3 v4 (0 : Int32) (0 : Int32)).bind fun t4 => some t4
theorem s_X12_kindsFor {h : aH} {v0 : Nat} {v1 : Int32} {v2 : Int32} {v3 : Int32} {v4 : Int32} {out : Int32} (hf0 : f_X12_kindsFor h v0 v1 v2 v3 v4 = some out) : EV 1 yX12_kindsFor cX12_kindsFor 7 (some .int) h [.ref v0, .int v1, .int v2, .int v3, .int v4] (some (.int out)) h 0 0 := by
  refine EV.of (own := RX12) (lv0 := [(0, .ref v0), (1, .int v1), (2, .int v2), (3, .int v3), (4, .int v4)]) (by decide +kernel) rfl rfl (Nat.le_of_ble_eq_true rfl) ?_
  intro p l e s m args below meth c D cA B Hb C hin
  unfold f_X12_kindsFor at hf0
  refine r_iconst (v := 0) C dX12_kindsFor_0 (by decide) ?_
  refine r_istore (lv' := [(5, .int (0 : Int32)), (0, .ref v0), (1, .int v1), (2, .int v2), (3, .int v3), (4, .int v4)]) C dX12_kindsFor_1 (by decide) rfl rfl ?_
  refine r_iconst (v := 0) C dX12_kindsFor_3 (by decide) ?_
  refine r_istore (lv' := [(6, .int (0 : Int32)), (5, .int (0 : Int32)), (0, .ref v0), (1, .int v1), (2, .int v2), (3, .int v3), (4, .int v4)]) C dX12_kindsFor_4 (by decide) rfl rfl ?_
  obtain ⟨y1, hl6, hf0⟩ := ob hf0
  have L6 : ∀ (n : Nat) (t2 : Int32) (t3 : Int32), whileL n (fun q : Int32 × Int32 => f_X12_kindsFor_b6 h v0 v1 v2 v3 v4 q.1 q.2) (t2, t3) = some y1 → gW p l e (rmO 1 0 0) s m args below meth c (MQ below (eQ D cA B Hb h (some (.int out))) args s 0 0 (fun q => B ≤ q)) D cA B Hb 7 h 6 [(0, .ref v0), (1, .int v1), (2, .int v2), (3, .int v3), (4, .int v4), (5, .int t2), (6, .int t3)] [] 0 0 := by
    intro n
    induction n with
    | zero => intro t2 t3 hz; cases hz
    | succ n ih6 =>
      intro t2 t3 hz
      obtain ⟨x6, hf1, hk6⟩ := wl hz
      replace hf1 : f_X12_kindsFor_b6 h v0 v1 v2 v3 v4 t2 t3 = some x6 := hf1
      unfold f_X12_kindsFor_b6 at hf1
      have J36 : ∀ (t4 : Int32) (t5 : Int32) (t6 : Int32), f_X12_kindsFor_j36 h v0 v1 v2 v3 v4 t4 t5 t6 = some x6 → gW p l e (rmO 1 0 0) s m args below meth c (MQ below (eQ D cA B Hb h (some (.int out))) args s 0 0 (fun q => B ≤ q)) D cA B Hb 7 h 36 [(0, .ref v0), (1, .int v1), (2, .int v2), (3, .int v3), (4, .int v4), (6, .int t4)] [.int t6, .int t5] 0 0 := by
        intro t4 t5 t6 hf1
        unfold f_X12_kindsFor_j36 at hf1
        refine r_ior C dX12_kindsFor_36 ?_
        obtain ⟨t7, e8, hf1⟩ := ob hf1
        refine r_istore (lv' := [(5, .int t7), (0, .ref v0), (1, .int v1), (2, .int v2), (3, .int v3), (4, .int v4), (6, .int t4)]) C dX12_kindsFor_37 (by decide) e8 rfl ?_
        obtain ⟨t9, e10, hf1⟩ := ob hf1
        refine r_iinc (lv' := [(6, .int t9), (5, .int t7), (0, .ref v0), (1, .int v1), (2, .int v2), (3, .int v3), (4, .int v4)]) C dX12_kindsFor_39 rfl e10 (by decide) rfl ?_
        refine r_goto (tgt := 6) C dX12_kindsFor_42 (by decide) ?_
        obtain rfl := so hf1
        refine r_subk [2, 3, 4, 5, 6, 1, 0] (lv' := [(0, .ref v0), (1, .int v1), (2, .int v2), (3, .int v3), (4, .int v4), (5, .int t7), (6, .int t9)]) rfl ?_
        exact ih6 t7 t9 hk6
      refine r_iload C dX12_kindsFor_6 rfl ?_
      refine r_iconst (v := 4) C dX12_kindsFor_8 (by decide) ?_
      refine r_icmp_ge (tgt := 45) C dX12_kindsFor_9 (by decide) (fun c11 => ?_) (fun c11 => ?_)
      · rw [if_pos c11] at hf1
        obtain rfl := so hf1
        obtain rfl := so (show some t2 = some y1 from hk6)
        refine r_iload C dX12_kindsFor_45 rfl ?_
        obtain rfl := so hf0
        exact r_iret C dX12_kindsFor_47
      · rw [if_neg c11] at hf1
        refine r_iload C dX12_kindsFor_12 rfl ?_
        refine r_aload_n C dX12_kindsFor_14 rfl ?_
        refine r_iload_n C dX12_kindsFor_15 rfl ?_
        refine r_iload_n C dX12_kindsFor_16 rfl ?_
        refine r_iload_n C dX12_kindsFor_17 rfl ?_
        refine r_iload C dX12_kindsFor_18 rfl ?_
        obtain ⟨u13, e12, hf1⟩ := ob hf1
        obtain ⟨t14, e15, hf1⟩ := ob hf1
        refine r_cV (ci := 12) (rest := [.int t2]) (st2 := [.int t14, .int t2]) C (s_X12_saysAs e15) mk_X12_saysAs rfl (ck_k e12) (by decide) im_X12_saysAs sl_X12_saysAs lk_X12_368 rfl rfl rfl dX12_kindsFor_20 (Nat.le_of_ble_eq_true rfl) ⟨Nat.le_of_ble_eq_true rfl, Nat.le_of_ble_eq_true rfl⟩ ⟨Nat.le_of_ble_eq_true rfl, Nat.le_of_ble_eq_true rfl⟩ ?_
        refine r_iload C dX12_kindsFor_23 rfl ?_
        refine r_icmp_ne (tgt := 35) C dX12_kindsFor_25 (by decide) (fun c16 => ?_) (fun c16 => ?_)
        · rw [if_neg c16] at hf1
          refine r_iconst (v := 0) C dX12_kindsFor_35 (by decide) ?_
          refine r_subk [0, 1, 2, 3, 4, 6] (lv' := [(0, .ref v0), (1, .int v1), (2, .int v2), (3, .int v3), (4, .int v4), (6, .int t3)]) rfl ?_
          exact J36 t3 t2 (0 : Int32) hf1
        · rw [if_pos c16] at hf1
          refine r_iconst (v := 1) C dX12_kindsFor_28 (by decide) ?_
          refine r_iload C dX12_kindsFor_29 rfl ?_
          refine r_ishl C dX12_kindsFor_31 ?_
          refine r_goto (tgt := 36) C dX12_kindsFor_32 (by decide) ?_
          refine r_subk [0, 1, 2, 3, 4, 6] (lv' := [(0, .ref v0), (1, .int v1), (2, .int v2), (3, .int v3), (4, .int v4), (6, .int t3)]) rfl ?_
          exact J36 t3 t2 ((1 : Int32) <<< (t3 &&& 31)) hf1
  refine r_subk [2, 3, 4, 5, 6, 1, 0] (lv' := [(0, .ref v0), (1, .int v1), (2, .int v2), (3, .int v3), (4, .int v4), (5, .int (0 : Int32)), (6, .int (0 : Int32))]) rfl ?_
  exact L6 wN (0 : Int32) (0 : Int32) hl6
def f_X12_fitsBy_j115 (h : aH) (v0 : Nat) (v1 : Int32) (v2 : Int32) (v3 : Int32) (v4 : Int32) : Option ((Int32 × aH) ⊕ (aH)) := (gR h 12 v0 34).bind fun t3 => (sI h t3 (((256 : Int32) * v2) + v3) v4).bind fun h4 => (some (v3 + (1 : Int32))).bind fun t5 => some (.inl (t5, h4))
def f_X12_fitsBy_j109 (h : aH) (v0 : Nat) (v1 : Int32) (v2 : Int32) (v3 : Int32) (v4 : Int32) (v5 : Int32) : Option ((Int32 × Int32) ⊕ (Int32)) := (some (v5 + (1 : Int32))).bind fun t6 => some (.inl (v4, t6))
def f_X12_fitsBy_b46 (h : aH) (v0 : Nat) (v1 : Int32) (v2 : Int32) (v3 : Int32) (v4 : Int32) (v5 : Int32) : Option ((Int32 × Int32) ⊕ (Int32)) := (gR h 12 v0 0).bind fun t7 => (lI h t7 (6 : Int32)).bind fun t8 => if t8 ≤ v5 then some (.inr v4) else if v4 = 0 then some (.inr v4) else if ((v1 >>> (v5 &&& 31)) &&& (1 : Int32)) = (1 : Int32) then (ck h 12 v0).bind fun _ => (f_X12_ofHeard h v0 v5 (0 : Int32)).bind fun t9 => if t9 = v2 then (ck h 12 v0).bind fun _ => (f_X12_ofHeard h v0 v5 (1 : Int32)).bind fun t10 => (ck h 12 v0).bind fun _ => (f_X12_ofHeard h v0 v5 (2 : Int32)).bind fun t11 => (ck h 12 v0).bind fun _ => (f_X12_kindsFor h v0 v2 t10 v3 t11).bind fun t12 => (some (v4 &&& t12)).bind fun t13 => f_X12_fitsBy_j109 h v0 v1 v2 v3 t13 v5 else f_X12_fitsBy_j109 h v0 v1 v2 v3 v4 v5 else f_X12_fitsBy_j109 h v0 v1 v2 v3 v4 v5
def f_X12_fitsBy_l46 (h : aH) (v0 : Nat) (v1 : Int32) (v2 : Int32) (v3 : Int32) (v4 : Int32) (v5 : Int32) : Option (Int32) := whileL wN (fun q : Int32 × Int32 => f_X12_fitsBy_b46 h v0 v1 v2 v3 q.1 q.2) (v4, v5)
def f_X12_fitsBy_j41 (h : aH) (v0 : Nat) (v1 : Int32) (v2 : Int32) (v3 : Int32) (s0 : Int32) : Option ((Int32 × aH) ⊕ (aH)) := (f_X12_fitsBy_l46 h v0 v1 v2 v3 s0 (0 : Int32)).bind fun t14 => f_X12_fitsBy_j115 h v0 v1 v2 v3 t14
def f_X12_fitsBy_b14 (v0 : Nat) (v1 : Int32) (v2 : Int32) (v3 : Int32) (h : aH) : Option ((Int32 × aH) ⊕ (aH)) := (gR h 12 v0 0).bind fun t15 => (lI h t15 (2 : Int32)).bind fun t16 => if t16 ≤ v3 then some (.inr h) else (ck h 12 v0).bind fun _ => (f_X12_isPossible h v0 v3).bind fun t17 => if t17 = 0 then f_X12_fitsBy_j41 h v0 v1 v2 v3 (0 : Int32) else (ck h 12 v0).bind fun _ => (f_X12_mayBe h v0 v2).bind fun t18 => f_X12_fitsBy_j41 h v0 v1 v2 v3 t18
def f_X12_fitsBy_l14 (v0 : Nat) (v1 : Int32) (v2 : Int32) (v3 : Int32) (h : aH) : Option (aH) := whileL wN (fun q : Int32 × aH => f_X12_fitsBy_b14 v0 v1 v2 q.1 q.2) (v3, h)
def f_X12_fitsBy_b2 (v0 : Nat) (v1 : Int32) (v2 : Int32) (h : aH) : Option ((Int32 × aH) ⊕ (aH)) := (gR h 12 v0 0).bind fun t1 => (lI h t1 (4 : Int32)).bind fun t2 => if t2 ≤ v2 then some (.inr h) else (f_X12_fitsBy_l14 v0 v1 v2 (0 : Int32) h).bind fun h19 => (some (v2 + (1 : Int32))).bind fun t20 => some (.inl (t20, h19))
def f_X12_fitsBy_l2 (v0 : Nat) (v1 : Int32) (v2 : Int32) (h : aH) : Option (aH) := whileL wN (fun q : Int32 × aH => f_X12_fitsBy_b2 v0 v1 q.1 q.2) (v2, h)
def f_X12_fitsBy_b143 (v0 : Nat) (v2 : Int32) (h : aH) : Option ((Int32 × aH) ⊕ (aH)) := if (12 : Int32) ≤ v2 then some (.inr h) else (gR h 12 v0 35).bind fun t22 => (sZ h t22 v2 (0 : Int32)).bind fun h23 => (some (v2 + (1 : Int32))).bind fun t24 => some (.inl (t24, h23))
def f_X12_fitsBy_l143 (v0 : Nat) (v2 : Int32) (h : aH) : Option (aH) := whileL wN (fun q : Int32 × aH => f_X12_fitsBy_b143 v0 q.1 q.2) (v2, h)
def f_X12_fitsBy_b164 (v0 : Nat) (v2 : Int32) (h : aH) : Option ((Int32 × aH) ⊕ (aH)) := (gR h 12 v0 0).bind fun t26 => (lI h t26 (6 : Int32)).bind fun t27 => if t27 ≤ v2 then some (.inr h) else (gR h 12 v0 35).bind fun t28 => (ck h 12 v0).bind fun _ => (f_X12_ofHeard h v0 v2 (1 : Int32)).bind fun t29 => (sZ h t28 t29 (1 : Int32)).bind fun h30 => (some (v2 + (1 : Int32))).bind fun t31 => some (.inl (t31, h30))
def f_X12_fitsBy_l164 (v0 : Nat) (v2 : Int32) (h : aH) : Option (aH) := whileL wN (fun q : Int32 × aH => f_X12_fitsBy_b164 v0 q.1 q.2) (v2, h)
def f_X12_fitsBy (h : aH) (v0 : Nat) (v1 : Int32) : Option (aH) := (f_X12_fitsBy_l2 v0 v1 (0 : Int32) h).bind fun h21 => (f_X12_fitsBy_l143 v0 (0 : Int32) h21).bind fun h25 => (f_X12_fitsBy_l164 v0 (0 : Int32) h25).bind fun h32 => some h32
theorem s_X12_fitsBy {h : aH} {v0 : Nat} {v1 : Int32} {out : aH} (hf0 : f_X12_fitsBy h v0 v1 = some out) : EV 2 yX12_fitsBy cX12_fitsBy 6 none h [.ref v0, .int v1] none out 0 0 := by
  refine EV.of (own := RX12) (lv0 := [(0, .ref v0), (1, .int v1)]) (by decide +kernel) rfl rfl (Nat.le_of_ble_eq_true rfl) ?_
  intro p l e s m args below meth c D cA B Hb C hin
  unfold f_X12_fitsBy at hf0
  refine r_iconst (v := 0) C dX12_fitsBy_0 (by decide) ?_
  refine r_istore_n (lv' := [(2, .int (0 : Int32)), (0, .ref v0), (1, .int v1)]) C dX12_fitsBy_1 (by decide) rfl rfl ?_
  obtain ⟨y1, hl2, hf0⟩ := ob hf0
  have L2 : ∀ (n : Nat) (t2 : Int32) (h3 : aH), whileL n (fun q : Int32 × aH => f_X12_fitsBy_b2 v0 v1 q.1 q.2) (t2, h3) = some y1 → gW p l e (rmO 2 0 0) s m args below meth c (MQ below (eQ D cA B Hb out none) args s 0 0 (fun q => B ≤ q)) D cA B Hb 6 h3 2 [(0, .ref v0), (1, .int v1), (2, .int t2)] [] 0 0 := by
    intro n
    induction n with
    | zero => intro t2 h3 hz; cases hz
    | succ n ih2 =>
      intro t2 h3 hz
      obtain ⟨x2, hf1, hk2⟩ := wl hz
      replace hf1 : f_X12_fitsBy_b2 v0 v1 t2 h3 = some x2 := hf1
      unfold f_X12_fitsBy_b2 at hf1
      refine r_iload_n C dX12_fitsBy_2 rfl ?_
      refine r_aload_n C dX12_fitsBy_3 rfl ?_
      obtain ⟨t4, e5, hf1⟩ := ob hf1
      refine r_getR C fk_X12_7 rfl dX12_fitsBy_4 e5 ?_
      refine r_iconst (v := 4) C dX12_fitsBy_7 (by decide) ?_
      obtain ⟨t6, e7, hf1⟩ := ob hf1
      refine r_ldI C dX12_fitsBy_8 e7 ?_
      refine r_icmp_ge (tgt := 141) C dX12_fitsBy_9 (by decide) (fun c8 => ?_) (fun c8 => ?_)
      · rw [if_pos c8] at hf1
        obtain rfl := so hf1
        obtain rfl := so (show some h3 = some y1 from hk2)
        refine r_iconst (v := 0) C dX12_fitsBy_141 (by decide) ?_
        refine r_istore_n (lv' := [(2, .int (0 : Int32)), (0, .ref v0), (1, .int v1)]) C dX12_fitsBy_142 (by decide) rfl rfl ?_
        obtain ⟨y9, hl143, hf0⟩ := ob hf0
        have L143 : ∀ (n : Nat) (t10 : Int32) (h11 : aH), whileL n (fun q : Int32 × aH => f_X12_fitsBy_b143 v0 q.1 q.2) (t10, h11) = some y9 → gW p l e (rmO 2 0 0) s m args below meth c (MQ below (eQ D cA B Hb out none) args s 0 0 (fun q => B ≤ q)) D cA B Hb 6 h11 143 [(0, .ref v0), (2, .int t10)] [] 0 0 := by
          intro n
          induction n with
          | zero => intro t10 h11 hz; cases hz
          | succ n ih143 =>
            intro t10 h11 hz
            obtain ⟨x143, hf1, hk143⟩ := wl hz
            replace hf1 : f_X12_fitsBy_b143 v0 t10 h11 = some x143 := hf1
            unfold f_X12_fitsBy_b143 at hf1
            refine r_iload_n C dX12_fitsBy_143 rfl ?_
            refine r_bipush (v := 12) C dX12_fitsBy_144 (by decide) ?_
            refine r_icmp_ge (tgt := 162) C dX12_fitsBy_146 (by decide) (fun c12 => ?_) (fun c12 => ?_)
            · rw [if_pos c12] at hf1
              obtain rfl := so hf1
              obtain rfl := so (show some h11 = some y9 from hk143)
              refine r_iconst (v := 0) C dX12_fitsBy_162 (by decide) ?_
              refine r_istore_n (lv' := [(2, .int (0 : Int32)), (0, .ref v0)]) C dX12_fitsBy_163 (by decide) rfl rfl ?_
              obtain ⟨y13, hl164, hf0⟩ := ob hf0
              have L164 : ∀ (n : Nat) (t14 : Int32) (h15 : aH), whileL n (fun q : Int32 × aH => f_X12_fitsBy_b164 v0 q.1 q.2) (t14, h15) = some y13 → gW p l e (rmO 2 0 0) s m args below meth c (MQ below (eQ D cA B Hb out none) args s 0 0 (fun q => B ≤ q)) D cA B Hb 6 h15 164 [(0, .ref v0), (2, .int t14)] [] 0 0 := by
                intro n
                induction n with
                | zero => intro t14 h15 hz; cases hz
                | succ n ih164 =>
                  intro t14 h15 hz
                  obtain ⟨x164, hf1, hk164⟩ := wl hz
                  replace hf1 : f_X12_fitsBy_b164 v0 t14 h15 = some x164 := hf1
                  unfold f_X12_fitsBy_b164 at hf1
                  refine r_iload_n C dX12_fitsBy_164 rfl ?_
                  refine r_aload_n C dX12_fitsBy_165 rfl ?_
                  obtain ⟨t16, e17, hf1⟩ := ob hf1
                  refine r_getR C fk_X12_7 rfl dX12_fitsBy_166 e17 ?_
                  refine r_bipush (v := 6) C dX12_fitsBy_169 (by decide) ?_
                  obtain ⟨t18, e19, hf1⟩ := ob hf1
                  refine r_ldI C dX12_fitsBy_171 e19 ?_
                  refine r_icmp_ge (tgt := 193) C dX12_fitsBy_172 (by decide) (fun c20 => ?_) (fun c20 => ?_)
                  · rw [if_pos c20] at hf1
                    obtain rfl := so hf1
                    obtain rfl := so (show some h15 = some y13 from hk164)
                    obtain rfl := so hf0
                    exact r_vret C dX12_fitsBy_193
                  · rw [if_neg c20] at hf1
                    refine r_aload_n C dX12_fitsBy_175 rfl ?_
                    obtain ⟨t21, e22, hf1⟩ := ob hf1
                    refine r_getR C fk_X12_72 rfl dX12_fitsBy_176 e22 ?_
                    refine r_aload_n C dX12_fitsBy_179 rfl ?_
                    refine r_iload_n C dX12_fitsBy_180 rfl ?_
                    refine r_iconst (v := 1) C dX12_fitsBy_181 (by decide) ?_
                    obtain ⟨u24, e23, hf1⟩ := ob hf1
                    obtain ⟨t25, e26, hf1⟩ := ob hf1
                    refine r_cV (ci := 12) (rest := [.ref t21]) (st2 := [.int t25, .ref t21]) C (s_X12_ofHeard e26) mk_X12_ofHeard rfl (ck_k e23) (by decide) im_X12_ofHeard sl_X12_ofHeard lk_X12_322 rfl rfl rfl dX12_fitsBy_182 (Nat.le_of_ble_eq_true rfl) ⟨Nat.le_of_ble_eq_true rfl, Nat.le_of_ble_eq_true rfl⟩ ⟨Nat.le_of_ble_eq_true rfl, Nat.le_of_ble_eq_true rfl⟩ ?_
                    refine r_iconst (v := 1) C dX12_fitsBy_185 (by decide) ?_
                    obtain ⟨h27, e28, hf1⟩ := ob hf1
                    refine r_stZ C dX12_fitsBy_186 e28 ?_
                    obtain ⟨t29, e30, hf1⟩ := ob hf1
                    refine r_iinc (lv' := [(2, .int t29), (0, .ref v0)]) C dX12_fitsBy_187 rfl e30 (by decide) rfl ?_
                    refine r_goto (tgt := 164) C dX12_fitsBy_190 (by decide) ?_
                    obtain rfl := so hf1
                    refine r_subk [1, 0] (lv' := [(0, .ref v0), (2, .int t29)]) rfl ?_
                    exact ih164 t29 h27 hk164
              refine r_subk [1, 0] (lv' := [(0, .ref v0), (2, .int (0 : Int32))]) rfl ?_
              exact L164 wN (0 : Int32) h11 hl164
            · rw [if_neg c12] at hf1
              refine r_aload_n C dX12_fitsBy_149 rfl ?_
              obtain ⟨t31, e32, hf1⟩ := ob hf1
              refine r_getR C fk_X12_72 rfl dX12_fitsBy_150 e32 ?_
              refine r_iload_n C dX12_fitsBy_153 rfl ?_
              refine r_iconst (v := 0) C dX12_fitsBy_154 (by decide) ?_
              obtain ⟨h33, e34, hf1⟩ := ob hf1
              refine r_stZ C dX12_fitsBy_155 e34 ?_
              obtain ⟨t35, e36, hf1⟩ := ob hf1
              refine r_iinc (lv' := [(2, .int t35), (0, .ref v0)]) C dX12_fitsBy_156 rfl e36 (by decide) rfl ?_
              refine r_goto (tgt := 143) C dX12_fitsBy_159 (by decide) ?_
              obtain rfl := so hf1
              refine r_subk [1, 0] (lv' := [(0, .ref v0), (2, .int t35)]) rfl ?_
              exact ih143 t35 h33 hk143
        refine r_subk [1, 0] (lv' := [(0, .ref v0), (2, .int (0 : Int32))]) rfl ?_
        exact L143 wN (0 : Int32) h3 hl143
      · rw [if_neg c8] at hf1
        refine r_iconst (v := 0) C dX12_fitsBy_12 (by decide) ?_
        refine r_istore_n (lv' := [(3, .int (0 : Int32)), (0, .ref v0), (1, .int v1), (2, .int t2)]) C dX12_fitsBy_13 (by decide) rfl rfl ?_
        obtain ⟨y37, hl14, hf1⟩ := ob hf1
        have L14 : ∀ (n : Nat) (t38 : Int32) (h39 : aH), whileL n (fun q : Int32 × aH => f_X12_fitsBy_b14 v0 v1 t2 q.1 q.2) (t38, h39) = some y37 → gW p l e (rmO 2 0 0) s m args below meth c (MQ below (eQ D cA B Hb out none) args s 0 0 (fun q => B ≤ q)) D cA B Hb 6 h39 14 [(0, .ref v0), (1, .int v1), (2, .int t2), (3, .int t38)] [] 0 0 := by
          intro n
          induction n with
          | zero => intro t38 h39 hz; cases hz
          | succ n ih14 =>
            intro t38 h39 hz
            obtain ⟨x14, hf2, hk14⟩ := wl hz
            replace hf2 : f_X12_fitsBy_b14 v0 v1 t2 t38 h39 = some x14 := hf2
            unfold f_X12_fitsBy_b14 at hf2
            have J115 : ∀ (h40 : aH) (t41 : Int32) (t42 : Int32), f_X12_fitsBy_j115 h40 v0 v1 t2 t41 t42 = some x14 → gW p l e (rmO 2 0 0) s m args below meth c (MQ below (eQ D cA B Hb out none) args s 0 0 (fun q => B ≤ q)) D cA B Hb 6 h40 115 [(0, .ref v0), (1, .int v1), (2, .int t2), (3, .int t41), (4, .int t42)] [] 0 0 := by
              intro h40 t41 t42 hf2
              unfold f_X12_fitsBy_j115 at hf2
              refine r_aload_n C dX12_fitsBy_115 rfl ?_
              obtain ⟨t43, e44, hf2⟩ := ob hf2
              refine r_getR C fk_X12_69 rfl dX12_fitsBy_116 e44 ?_
              refine r_sipush (v := 256) C dX12_fitsBy_119 (by decide) ?_
              refine r_iload_n C dX12_fitsBy_122 rfl ?_
              refine r_imul C dX12_fitsBy_123 ?_
              refine r_iload_n C dX12_fitsBy_124 rfl ?_
              refine r_iadd C dX12_fitsBy_125 ?_
              refine r_iload C dX12_fitsBy_126 rfl ?_
              obtain ⟨h45, e46, hf2⟩ := ob hf2
              refine r_stI C dX12_fitsBy_128 e46 ?_
              obtain ⟨t47, e48, hf2⟩ := ob hf2
              refine r_iinc (lv' := [(3, .int t47), (0, .ref v0), (1, .int v1), (2, .int t2), (4, .int t42)]) C dX12_fitsBy_129 rfl e48 (by decide) rfl ?_
              refine r_goto (tgt := 14) C dX12_fitsBy_132 (by decide) ?_
              obtain rfl := so hf2
              refine r_subk [1, 2, 3, 0] (lv' := [(0, .ref v0), (1, .int v1), (2, .int t2), (3, .int t47)]) rfl ?_
              exact ih14 t47 h45 hk14
            have J41 : ∀ (h49 : aH) (t50 : Int32) (t51 : Int32), f_X12_fitsBy_j41 h49 v0 v1 t2 t50 t51 = some x14 → gW p l e (rmO 2 0 0) s m args below meth c (MQ below (eQ D cA B Hb out none) args s 0 0 (fun q => B ≤ q)) D cA B Hb 6 h49 41 [(0, .ref v0), (1, .int v1), (2, .int t2), (3, .int t50)] [.int t51] 0 0 := by
              intro h49 t50 t51 hf2
              unfold f_X12_fitsBy_j41 at hf2
              refine r_istore (lv' := [(4, .int t51), (0, .ref v0), (1, .int v1), (2, .int t2), (3, .int t50)]) C dX12_fitsBy_41 (by decide) rfl rfl ?_
              refine r_iconst (v := 0) C dX12_fitsBy_43 (by decide) ?_
              refine r_istore (lv' := [(5, .int (0 : Int32)), (4, .int t51), (0, .ref v0), (1, .int v1), (2, .int t2), (3, .int t50)]) C dX12_fitsBy_44 (by decide) rfl rfl ?_
              obtain ⟨y52, hl46, hf2⟩ := ob hf2
              have L46 : ∀ (n : Nat) (t53 : Int32) (t54 : Int32), whileL n (fun q : Int32 × Int32 => f_X12_fitsBy_b46 h49 v0 v1 t2 t50 q.1 q.2) (t53, t54) = some y52 → gW p l e (rmO 2 0 0) s m args below meth c (MQ below (eQ D cA B Hb out none) args s 0 0 (fun q => B ≤ q)) D cA B Hb 6 h49 46 [(0, .ref v0), (1, .int v1), (2, .int t2), (3, .int t50), (4, .int t53), (5, .int t54)] [] 0 0 := by
                intro n
                induction n with
                | zero => intro t53 t54 hz; cases hz
                | succ n ih46 =>
                  intro t53 t54 hz
                  obtain ⟨x46, hf3, hk46⟩ := wl hz
                  replace hf3 : f_X12_fitsBy_b46 h49 v0 v1 t2 t50 t53 t54 = some x46 := hf3
                  unfold f_X12_fitsBy_b46 at hf3
                  have J109 : ∀ (t55 : Int32) (t56 : Int32), f_X12_fitsBy_j109 h49 v0 v1 t2 t50 t55 t56 = some x46 → gW p l e (rmO 2 0 0) s m args below meth c (MQ below (eQ D cA B Hb out none) args s 0 0 (fun q => B ≤ q)) D cA B Hb 6 h49 109 [(0, .ref v0), (1, .int v1), (2, .int t2), (3, .int t50), (4, .int t55), (5, .int t56)] [] 0 0 := by
                    intro t55 t56 hf3
                    unfold f_X12_fitsBy_j109 at hf3
                    obtain ⟨t57, e58, hf3⟩ := ob hf3
                    refine r_iinc (lv' := [(5, .int t57), (0, .ref v0), (1, .int v1), (2, .int t2), (3, .int t50), (4, .int t55)]) C dX12_fitsBy_109 rfl e58 (by decide) rfl ?_
                    refine r_goto (tgt := 46) C dX12_fitsBy_112 (by decide) ?_
                    obtain rfl := so hf3
                    refine r_subk [1, 2, 3, 4, 5, 0] (lv' := [(0, .ref v0), (1, .int v1), (2, .int t2), (3, .int t50), (4, .int t55), (5, .int t57)]) rfl ?_
                    exact ih46 t55 t57 hk46
                  refine r_iload C dX12_fitsBy_46 rfl ?_
                  refine r_aload_n C dX12_fitsBy_48 rfl ?_
                  obtain ⟨t59, e60, hf3⟩ := ob hf3
                  refine r_getR C fk_X12_7 rfl dX12_fitsBy_49 e60 ?_
                  refine r_bipush (v := 6) C dX12_fitsBy_52 (by decide) ?_
                  obtain ⟨t61, e62, hf3⟩ := ob hf3
                  refine r_ldI C dX12_fitsBy_54 e62 ?_
                  refine r_icmp_ge (tgt := 115) C dX12_fitsBy_55 (by decide) (fun c63 => ?_) (fun c63 => ?_)
                  · rw [if_pos c63] at hf3
                    obtain rfl := so hf3
                    obtain rfl := so (show some t53 = some y52 from hk46)
                    refine r_subk [0, 1, 2, 3, 4] (lv' := [(0, .ref v0), (1, .int v1), (2, .int t2), (3, .int t50), (4, .int t53)]) rfl ?_
                    exact J115 h49 t50 t53 hf2
                  · rw [if_neg c63] at hf3
                    refine r_iload C dX12_fitsBy_58 rfl ?_
                    refine r_ifeq (tgt := 115) C dX12_fitsBy_60 (by decide) (fun c64 => ?_) (fun c64 => ?_)
                    · rw [if_pos c64] at hf3
                      obtain rfl := so hf3
                      obtain rfl := so (show some t53 = some y52 from hk46)
                      refine r_subk [0, 1, 2, 3, 4] (lv' := [(0, .ref v0), (1, .int v1), (2, .int t2), (3, .int t50), (4, .int t53)]) rfl ?_
                      exact J115 h49 t50 t53 hf2
                    · rw [if_neg c64] at hf3
                      refine r_iload_n C dX12_fitsBy_63 rfl ?_
                      refine r_iload C dX12_fitsBy_64 rfl ?_
                      refine r_ishr C dX12_fitsBy_66 ?_
                      refine r_iconst (v := 1) C dX12_fitsBy_67 (by decide) ?_
                      refine r_iand C dX12_fitsBy_68 ?_
                      refine r_iconst (v := 1) C dX12_fitsBy_69 (by decide) ?_
                      refine r_icmp_ne (tgt := 109) C dX12_fitsBy_70 (by decide) (fun c65 => ?_) (fun c65 => ?_)
                      · rw [if_neg c65] at hf3
                        exact J109 t53 t54 hf3
                      · rw [if_pos c65] at hf3
                        refine r_aload_n C dX12_fitsBy_73 rfl ?_
                        refine r_iload C dX12_fitsBy_74 rfl ?_
                        refine r_iconst (v := 0) C dX12_fitsBy_76 (by decide) ?_
                        obtain ⟨u67, e66, hf3⟩ := ob hf3
                        obtain ⟨t68, e69, hf3⟩ := ob hf3
                        refine r_cV (ci := 12) (rest := []) (st2 := [.int t68]) C (s_X12_ofHeard e69) mk_X12_ofHeard rfl (ck_k e66) (by decide) im_X12_ofHeard sl_X12_ofHeard lk_X12_322 rfl rfl rfl dX12_fitsBy_77 (Nat.le_of_ble_eq_true rfl) ⟨Nat.le_of_ble_eq_true rfl, Nat.le_of_ble_eq_true rfl⟩ ⟨Nat.le_of_ble_eq_true rfl, Nat.le_of_ble_eq_true rfl⟩ ?_
                        refine r_iload_n C dX12_fitsBy_80 rfl ?_
                        refine r_icmp_ne (tgt := 109) C dX12_fitsBy_81 (by decide) (fun c70 => ?_) (fun c70 => ?_)
                        · rw [if_neg c70] at hf3
                          exact J109 t53 t54 hf3
                        · rw [if_pos c70] at hf3
                          refine r_iload C dX12_fitsBy_84 rfl ?_
                          refine r_aload_n C dX12_fitsBy_86 rfl ?_
                          refine r_iload_n C dX12_fitsBy_87 rfl ?_
                          refine r_aload_n C dX12_fitsBy_88 rfl ?_
                          refine r_iload C dX12_fitsBy_89 rfl ?_
                          refine r_iconst (v := 1) C dX12_fitsBy_91 (by decide) ?_
                          obtain ⟨u72, e71, hf3⟩ := ob hf3
                          obtain ⟨t73, e74, hf3⟩ := ob hf3
                          refine r_cV (ci := 12) (rest := [.int t2, .ref v0, .int t53]) (st2 := [.int t73, .int t2, .ref v0, .int t53]) C (s_X12_ofHeard e74) mk_X12_ofHeard rfl (ck_k e71) (by decide) im_X12_ofHeard sl_X12_ofHeard lk_X12_322 rfl rfl rfl dX12_fitsBy_92 (Nat.le_of_ble_eq_true rfl) ⟨Nat.le_of_ble_eq_true rfl, Nat.le_of_ble_eq_true rfl⟩ ⟨Nat.le_of_ble_eq_true rfl, Nat.le_of_ble_eq_true rfl⟩ ?_
                          refine r_iload_n C dX12_fitsBy_95 rfl ?_
                          refine r_aload_n C dX12_fitsBy_96 rfl ?_
                          refine r_iload C dX12_fitsBy_97 rfl ?_
                          refine r_iconst (v := 2) C dX12_fitsBy_99 (by decide) ?_
                          obtain ⟨u76, e75, hf3⟩ := ob hf3
                          obtain ⟨t77, e78, hf3⟩ := ob hf3
                          refine r_cV (ci := 12) (rest := [.int t50, .int t73, .int t2, .ref v0, .int t53]) (st2 := [.int t77, .int t50, .int t73, .int t2, .ref v0, .int t53]) C (s_X12_ofHeard e78) mk_X12_ofHeard rfl (ck_k e75) (by decide) im_X12_ofHeard sl_X12_ofHeard lk_X12_322 rfl rfl rfl dX12_fitsBy_100 (Nat.le_of_ble_eq_true rfl) ⟨Nat.le_of_ble_eq_true rfl, Nat.le_of_ble_eq_true rfl⟩ ⟨Nat.le_of_ble_eq_true rfl, Nat.le_of_ble_eq_true rfl⟩ ?_
                          obtain ⟨u80, e79, hf3⟩ := ob hf3
                          obtain ⟨t81, e82, hf3⟩ := ob hf3
                          refine r_cV (ci := 12) (rest := [.int t53]) (st2 := [.int t81, .int t53]) C (s_X12_kindsFor e82) mk_X12_kindsFor rfl (ck_k e79) (by decide) im_X12_kindsFor sl_X12_kindsFor lk_X12_375 rfl rfl rfl dX12_fitsBy_103 (Nat.le_of_ble_eq_true rfl) ⟨Nat.le_of_ble_eq_true rfl, Nat.le_of_ble_eq_true rfl⟩ ⟨Nat.le_of_ble_eq_true rfl, Nat.le_of_ble_eq_true rfl⟩ ?_
                          refine r_iand C dX12_fitsBy_106 ?_
                          obtain ⟨t83, e84, hf3⟩ := ob hf3
                          refine r_istore (lv' := [(4, .int t83), (0, .ref v0), (1, .int v1), (2, .int t2), (3, .int t50), (5, .int t54)]) C dX12_fitsBy_107 (by decide) e84 rfl ?_
                          refine r_subk [1, 2, 3, 4, 0, 5] (lv' := [(0, .ref v0), (1, .int v1), (2, .int t2), (3, .int t50), (4, .int t83), (5, .int t54)]) rfl ?_
                          exact J109 t83 t54 hf3
              refine r_subk [2, 3, 4, 5, 1, 0] (lv' := [(0, .ref v0), (1, .int v1), (2, .int t2), (3, .int t50), (4, .int t51), (5, .int (0 : Int32))]) rfl ?_
              exact L46 wN t51 (0 : Int32) hl46
            refine r_iload_n C dX12_fitsBy_14 rfl ?_
            refine r_aload_n C dX12_fitsBy_15 rfl ?_
            obtain ⟨t85, e86, hf2⟩ := ob hf2
            refine r_getR C fk_X12_7 rfl dX12_fitsBy_16 e86 ?_
            refine r_iconst (v := 2) C dX12_fitsBy_19 (by decide) ?_
            obtain ⟨t87, e88, hf2⟩ := ob hf2
            refine r_ldI C dX12_fitsBy_20 e88 ?_
            refine r_icmp_ge (tgt := 135) C dX12_fitsBy_21 (by decide) (fun c89 => ?_) (fun c89 => ?_)
            · rw [if_pos c89] at hf2
              obtain rfl := so hf2
              obtain rfl := so (show some h39 = some y37 from hk14)
              obtain ⟨t90, e91, hf1⟩ := ob hf1
              refine r_iinc (lv' := [(2, .int t90), (0, .ref v0), (1, .int v1), (3, .int t38)]) C dX12_fitsBy_135 rfl e91 (by decide) rfl ?_
              refine r_goto (tgt := 2) C dX12_fitsBy_138 (by decide) ?_
              obtain rfl := so hf1
              refine r_subk [1, 2, 0] (lv' := [(0, .ref v0), (1, .int v1), (2, .int t90)]) rfl ?_
              exact ih2 t90 h39 hk2
            · rw [if_neg c89] at hf2
              refine r_aload_n C dX12_fitsBy_24 rfl ?_
              refine r_iload_n C dX12_fitsBy_25 rfl ?_
              obtain ⟨u93, e92, hf2⟩ := ob hf2
              obtain ⟨t94, e95, hf2⟩ := ob hf2
              refine r_cV (ci := 12) (rest := []) (st2 := [.int t94]) C (s_X12_isPossible e95) mk_X12_isPossible rfl (ck_k e92) (by decide) im_X12_isPossible sl_X12_isPossible lk_X12_331 rfl rfl rfl dX12_fitsBy_26 (Nat.le_of_ble_eq_true rfl) ⟨Nat.le_of_ble_eq_true rfl, Nat.le_of_ble_eq_true rfl⟩ ⟨Nat.le_of_ble_eq_true rfl, Nat.le_of_ble_eq_true rfl⟩ ?_
              refine r_ifeq (tgt := 40) C dX12_fitsBy_29 (by decide) (fun c96 => ?_) (fun c96 => ?_)
              · rw [if_pos c96] at hf2
                refine r_iconst (v := 0) C dX12_fitsBy_40 (by decide) ?_
                exact J41 h39 t38 (0 : Int32) hf2
              · rw [if_neg c96] at hf2
                refine r_aload_n C dX12_fitsBy_32 rfl ?_
                refine r_iload_n C dX12_fitsBy_33 rfl ?_
                obtain ⟨u98, e97, hf2⟩ := ob hf2
                obtain ⟨t99, e100, hf2⟩ := ob hf2
                refine r_cV (ci := 12) (rest := []) (st2 := [.int t99]) C (s_X12_mayBe e100) mk_X12_mayBe rfl (ck_k e97) (by decide) im_X12_mayBe sl_X12_mayBe lk_X12_372 rfl rfl rfl dX12_fitsBy_34 (Nat.le_of_ble_eq_true rfl) ⟨Nat.le_of_ble_eq_true rfl, Nat.le_of_ble_eq_true rfl⟩ ⟨Nat.le_of_ble_eq_true rfl, Nat.le_of_ble_eq_true rfl⟩ ?_
                refine r_goto (tgt := 41) C dX12_fitsBy_37 (by decide) ?_
                exact J41 h39 t38 t99 hf2
        refine r_subk [1, 2, 3, 0] (lv' := [(0, .ref v0), (1, .int v1), (2, .int t2), (3, .int (0 : Int32))]) rfl ?_
        exact L14 wN (0 : Int32) h3 hl14
  refine r_subk [1, 2, 0] (lv' := [(0, .ref v0), (1, .int v1), (2, .int (0 : Int32))]) rfl ?_
  exact L2 wN (0 : Int32) h hl2
def f_X12_fitsAll (h : aH) (v0 : Nat) : Option (aH) := (gR h 12 v0 0).bind fun t1 => (lI h t1 (6 : Int32)).bind fun t2 => (ck h 12 v0).bind fun _ => (f_X12_fitsBy h v0 (((1 : Int32) <<< (t2 &&& 31)) - (1 : Int32))).bind fun h3 => some h3
theorem s_X12_fitsAll {h : aH} {v0 : Nat} {out : aH} (hf0 : f_X12_fitsAll h v0 = some out) : EV 3 yX12_fitsAll cX12_fitsAll 1 none h [.ref v0] none out 0 0 := by
  refine EV.of (own := RX12) (lv0 := [(0, .ref v0)]) (by decide +kernel) rfl rfl (Nat.le_of_ble_eq_true rfl) ?_
  intro p l e s m args below meth c D cA B Hb C hin
  unfold f_X12_fitsAll at hf0
  refine r_aload_n C dX12_fitsAll_0 rfl ?_
  refine r_iconst (v := 1) C dX12_fitsAll_1 (by decide) ?_
  refine r_aload_n C dX12_fitsAll_2 rfl ?_
  obtain ⟨t1, e2, hf0⟩ := ob hf0
  refine r_getR C fk_X12_7 rfl dX12_fitsAll_3 e2 ?_
  refine r_bipush (v := 6) C dX12_fitsAll_6 (by decide) ?_
  obtain ⟨t3, e4, hf0⟩ := ob hf0
  refine r_ldI C dX12_fitsAll_8 e4 ?_
  refine r_ishl C dX12_fitsAll_9 ?_
  refine r_iconst (v := 1) C dX12_fitsAll_10 (by decide) ?_
  refine r_isub C dX12_fitsAll_11 ?_
  obtain ⟨u6, e5, hf0⟩ := ob hf0
  obtain ⟨h7, e8, hf0⟩ := ob hf0
  refine r_cV (ci := 12) (rest := []) (st2 := []) C (s_X12_fitsBy e8) mk_X12_fitsBy rfl (ck_k e5) (by decide) im_X12_fitsBy sl_X12_fitsBy lk_X12_378 rfl rfl rfl dX12_fitsAll_12 (Nat.le_of_ble_eq_true rfl) ⟨Nat.le_of_ble_eq_true rfl, Nat.le_of_ble_eq_true rfl⟩ ⟨Nat.le_of_ble_eq_true rfl, Nat.le_of_ble_eq_true rfl⟩ ?_
  obtain rfl := so hf0
  exact r_vret C dX12_fitsAll_15
def f_X12_isLeftAt_j51 (h : aH) (v0 : Nat) (v1 : Int32) (v2 : Int32) (v4 : Int32) (s0 : Int32) : Option ((Int32 × Int32) ⊕ (Int32)) := (some (v4 + (1 : Int32))).bind fun t2 => some (.inl (s0, t2))
def f_X12_isLeftAt_j50 (h : aH) (v0 : Nat) (v1 : Int32) (v2 : Int32) (v4 : Int32) : Option ((Int32 × Int32) ⊕ (Int32)) := f_X12_isLeftAt_j51 h v0 v1 v2 v4 (0 : Int32)
def f_X12_isLeftAt_b9 (h : aH) (v0 : Nat) (v1 : Int32) (v2 : Int32) (v3 : Int32) (v4 : Int32) : Option ((Int32 × Int32) ⊕ (Int32)) := (gR h 12 v0 0).bind fun t3 => (lI h t3 (4 : Int32)).bind fun t4 => if t4 ≤ v4 then some (.inr v3) else if v3 = 0 then f_X12_isLeftAt_j50 h v0 v1 v2 v4 else (gR h 12 v0 34).bind fun t5 => (lI h t5 ((((1024 : Int32) * v1) + ((256 : Int32) * v4)) + v2)).bind fun t6 => if t6 = 0 then f_X12_isLeftAt_j50 h v0 v1 v2 v4 else f_X12_isLeftAt_j51 h v0 v1 v2 v4 (1 : Int32)
def f_X12_isLeftAt_l9 (h : aH) (v0 : Nat) (v1 : Int32) (v2 : Int32) (v3 : Int32) (v4 : Int32) : Option (Int32) := whileL wN (fun q : Int32 × Int32 => f_X12_isLeftAt_b9 h v0 v1 v2 q.1 q.2) (v3, v4)
def f_X12_isLeftAt (h : aH) (v0 : Nat) (v1 : Int32) (v2 : Int32) : Option (Int32) := (ck h 12 v0).bind fun _ => (f_X12_isPossible h v0 v2).bind fun t1 => (f_X12_isLeftAt_l9 h v0 v1 v2 t1 (0 : Int32)).bind fun t7 => (rZ t7).bind fun t8 => some t8
theorem s_X12_isLeftAt {h : aH} {v0 : Nat} {v1 : Int32} {v2 : Int32} {out : Int32} (hf0 : f_X12_isLeftAt h v0 v1 v2 = some out) : EV 2 yX12_isLeftAt cX12_isLeftAt 5 (some .boolean) h [.ref v0, .int v1, .int v2] (some (.int out)) h 0 0 := by
  refine EV.of (own := RX12) (lv0 := [(0, .ref v0), (1, .int v1), (2, .int v2)]) (by decide +kernel) rfl rfl (Nat.le_of_ble_eq_true rfl) ?_
  intro p l e s m args below meth c D cA B Hb C hin
  unfold f_X12_isLeftAt at hf0
  refine r_aload_n C dX12_isLeftAt_0 rfl ?_
  refine r_iload_n C dX12_isLeftAt_1 rfl ?_
  obtain ⟨u2, e1, hf0⟩ := ob hf0
  obtain ⟨t3, e4, hf0⟩ := ob hf0
  refine r_cV (ci := 12) (rest := []) (st2 := [.int t3]) C (s_X12_isPossible e4) mk_X12_isPossible rfl (ck_k e1) (by decide) im_X12_isPossible sl_X12_isPossible lk_X12_331 rfl rfl rfl dX12_isLeftAt_2 (Nat.le_of_ble_eq_true rfl) ⟨Nat.le_of_ble_eq_true rfl, Nat.le_of_ble_eq_true rfl⟩ ⟨Nat.le_of_ble_eq_true rfl, Nat.le_of_ble_eq_true rfl⟩ ?_
  refine r_istore_n (lv' := [(3, .int t3), (0, .ref v0), (1, .int v1), (2, .int v2)]) C dX12_isLeftAt_5 (by decide) rfl rfl ?_
  refine r_iconst (v := 0) C dX12_isLeftAt_6 (by decide) ?_
  refine r_istore (lv' := [(4, .int (0 : Int32)), (3, .int t3), (0, .ref v0), (1, .int v1), (2, .int v2)]) C dX12_isLeftAt_7 (by decide) rfl rfl ?_
  obtain ⟨y5, hl9, hf0⟩ := ob hf0
  have L9 : ∀ (n : Nat) (t6 : Int32) (t7 : Int32), whileL n (fun q : Int32 × Int32 => f_X12_isLeftAt_b9 h v0 v1 v2 q.1 q.2) (t6, t7) = some y5 → gW p l e (rmO 2 0 0) s m args below meth c (MQ below (eQ D cA B Hb h (some (.int out))) args s 0 0 (fun q => B ≤ q)) D cA B Hb 5 h 9 [(0, .ref v0), (1, .int v1), (2, .int v2), (3, .int t6), (4, .int t7)] [] 0 0 := by
    intro n
    induction n with
    | zero => intro t6 t7 hz; cases hz
    | succ n ih9 =>
      intro t6 t7 hz
      obtain ⟨x9, hf1, hk9⟩ := wl hz
      replace hf1 : f_X12_isLeftAt_b9 h v0 v1 v2 t6 t7 = some x9 := hf1
      unfold f_X12_isLeftAt_b9 at hf1
      have J51 : ∀ (t8 : Int32) (t9 : Int32), f_X12_isLeftAt_j51 h v0 v1 v2 t8 t9 = some x9 → gW p l e (rmO 2 0 0) s m args below meth c (MQ below (eQ D cA B Hb h (some (.int out))) args s 0 0 (fun q => B ≤ q)) D cA B Hb 5 h 51 [(0, .ref v0), (1, .int v1), (2, .int v2), (4, .int t8)] [.int t9] 0 0 := by
        intro t8 t9 hf1
        unfold f_X12_isLeftAt_j51 at hf1
        refine r_istore_n (lv' := [(3, .int t9), (0, .ref v0), (1, .int v1), (2, .int v2), (4, .int t8)]) C dX12_isLeftAt_51 (by decide) rfl rfl ?_
        obtain ⟨t10, e11, hf1⟩ := ob hf1
        refine r_iinc (lv' := [(4, .int t10), (3, .int t9), (0, .ref v0), (1, .int v1), (2, .int v2)]) C dX12_isLeftAt_52 rfl e11 (by decide) rfl ?_
        refine r_goto (tgt := 9) C dX12_isLeftAt_55 (by decide) ?_
        obtain rfl := so hf1
        refine r_subk [2, 3, 4, 1, 0] (lv' := [(0, .ref v0), (1, .int v1), (2, .int v2), (3, .int t9), (4, .int t10)]) rfl ?_
        exact ih9 t9 t10 hk9
      have J50 : ∀ (t12 : Int32), f_X12_isLeftAt_j50 h v0 v1 v2 t12 = some x9 → gW p l e (rmO 2 0 0) s m args below meth c (MQ below (eQ D cA B Hb h (some (.int out))) args s 0 0 (fun q => B ≤ q)) D cA B Hb 5 h 50 [(0, .ref v0), (1, .int v1), (2, .int v2), (4, .int t12)] [] 0 0 := by
        intro t12 hf1
        unfold f_X12_isLeftAt_j50 at hf1
        refine r_iconst (v := 0) C dX12_isLeftAt_50 (by decide) ?_
        exact J51 t12 (0 : Int32) hf1
      refine r_iload C dX12_isLeftAt_9 rfl ?_
      refine r_aload_n C dX12_isLeftAt_11 rfl ?_
      obtain ⟨t13, e14, hf1⟩ := ob hf1
      refine r_getR C fk_X12_7 rfl dX12_isLeftAt_12 e14 ?_
      refine r_iconst (v := 4) C dX12_isLeftAt_15 (by decide) ?_
      obtain ⟨t15, e16, hf1⟩ := ob hf1
      refine r_ldI C dX12_isLeftAt_16 e16 ?_
      refine r_icmp_ge (tgt := 58) C dX12_isLeftAt_17 (by decide) (fun c17 => ?_) (fun c17 => ?_)
      · rw [if_pos c17] at hf1
        obtain rfl := so hf1
        obtain rfl := so (show some t6 = some y5 from hk9)
        refine r_iload_n C dX12_isLeftAt_58 rfl ?_
        obtain ⟨t18, e19, hf0⟩ := ob hf0
        obtain ⟨rfl, e19z⟩ := rZ_k e19
        obtain rfl := so hf0
        exact r_zret C dX12_isLeftAt_59 e19z
      · rw [if_neg c17] at hf1
        refine r_iload_n C dX12_isLeftAt_20 rfl ?_
        refine r_ifeq (tgt := 50) C dX12_isLeftAt_21 (by decide) (fun c20 => ?_) (fun c20 => ?_)
        · rw [if_pos c20] at hf1
          refine r_subk [0, 1, 2, 4] (lv' := [(0, .ref v0), (1, .int v1), (2, .int v2), (4, .int t7)]) rfl ?_
          exact J50 t7 hf1
        · rw [if_neg c20] at hf1
          refine r_aload_n C dX12_isLeftAt_24 rfl ?_
          obtain ⟨t21, e22, hf1⟩ := ob hf1
          refine r_getR C fk_X12_69 rfl dX12_isLeftAt_25 e22 ?_
          refine r_sipush (v := 1024) C dX12_isLeftAt_28 (by decide) ?_
          refine r_iload_n C dX12_isLeftAt_31 rfl ?_
          refine r_imul C dX12_isLeftAt_32 ?_
          refine r_sipush (v := 256) C dX12_isLeftAt_33 (by decide) ?_
          refine r_iload C dX12_isLeftAt_36 rfl ?_
          refine r_imul C dX12_isLeftAt_38 ?_
          refine r_iadd C dX12_isLeftAt_39 ?_
          refine r_iload_n C dX12_isLeftAt_40 rfl ?_
          refine r_iadd C dX12_isLeftAt_41 ?_
          obtain ⟨t23, e24, hf1⟩ := ob hf1
          refine r_ldI C dX12_isLeftAt_42 e24 ?_
          refine r_ifeq (tgt := 50) C dX12_isLeftAt_43 (by decide) (fun c25 => ?_) (fun c25 => ?_)
          · rw [if_pos c25] at hf1
            refine r_subk [0, 1, 2, 4] (lv' := [(0, .ref v0), (1, .int v1), (2, .int v2), (4, .int t7)]) rfl ?_
            exact J50 t7 hf1
          · rw [if_neg c25] at hf1
            refine r_iconst (v := 1) C dX12_isLeftAt_46 (by decide) ?_
            refine r_goto (tgt := 51) C dX12_isLeftAt_47 (by decide) ?_
            refine r_subk [0, 1, 2, 4] (lv' := [(0, .ref v0), (1, .int v1), (2, .int v2), (4, .int t7)]) rfl ?_
            exact J51 t7 (1 : Int32) hf1
  refine r_subk [2, 3, 4, 1, 0] (lv' := [(0, .ref v0), (1, .int v1), (2, .int v2), (3, .int t3), (4, .int (0 : Int32))]) rfl ?_
  exact L9 wN t3 (0 : Int32) hl9
def f_X12_leftAt_j29 (h : aH) (v0 : Nat) (v1 : Int32) (v3 : Int32) (s0 : Int32) (s1 : Int32) : Option ((Int32 × Int32) ⊕ (Int32)) := (some (s0 + s1)).bind fun t1 => (some (v3 + (1 : Int32))).bind fun t2 => some (.inl (t1, t2))
def f_X12_leftAt_b4 (h : aH) (v0 : Nat) (v1 : Int32) (v2 : Int32) (v3 : Int32) : Option ((Int32 × Int32) ⊕ (Int32)) := (gR h 12 v0 0).bind fun t3 => (lI h t3 (2 : Int32)).bind fun t4 => if t4 ≤ v3 then some (.inr v2) else (ck h 12 v0).bind fun _ => (f_X12_isLeftAt h v0 v1 v3).bind fun t5 => if t5 = 0 then f_X12_leftAt_j29 h v0 v1 v3 v2 (0 : Int32) else f_X12_leftAt_j29 h v0 v1 v3 v2 (1 : Int32)
def f_X12_leftAt_l4 (h : aH) (v0 : Nat) (v1 : Int32) (v2 : Int32) (v3 : Int32) : Option (Int32) := whileL wN (fun q : Int32 × Int32 => f_X12_leftAt_b4 h v0 v1 q.1 q.2) (v2, v3)
def f_X12_leftAt (h : aH) (v0 : Nat) (v1 : Int32) : Option (Int32) := (f_X12_leftAt_l4 h v0 v1 (0 : Int32) (0 : Int32)).bind fun t6 => some t6
theorem s_X12_leftAt {h : aH} {v0 : Nat} {v1 : Int32} {out : Int32} (hf0 : f_X12_leftAt h v0 v1 = some out) : EV 3 yX12_leftAt cX12_leftAt 4 (some .int) h [.ref v0, .int v1] (some (.int out)) h 0 0 := by
  refine EV.of (own := RX12) (lv0 := [(0, .ref v0), (1, .int v1)]) (by decide +kernel) rfl rfl (Nat.le_of_ble_eq_true rfl) ?_
  intro p l e s m args below meth c D cA B Hb C hin
  unfold f_X12_leftAt at hf0
  refine r_iconst (v := 0) C dX12_leftAt_0 (by decide) ?_
  refine r_istore_n (lv' := [(2, .int (0 : Int32)), (0, .ref v0), (1, .int v1)]) C dX12_leftAt_1 (by decide) rfl rfl ?_
  refine r_iconst (v := 0) C dX12_leftAt_2 (by decide) ?_
  refine r_istore_n (lv' := [(3, .int (0 : Int32)), (2, .int (0 : Int32)), (0, .ref v0), (1, .int v1)]) C dX12_leftAt_3 (by decide) rfl rfl ?_
  obtain ⟨y1, hl4, hf0⟩ := ob hf0
  have L4 : ∀ (n : Nat) (t2 : Int32) (t3 : Int32), whileL n (fun q : Int32 × Int32 => f_X12_leftAt_b4 h v0 v1 q.1 q.2) (t2, t3) = some y1 → gW p l e (rmO 3 0 0) s m args below meth c (MQ below (eQ D cA B Hb h (some (.int out))) args s 0 0 (fun q => B ≤ q)) D cA B Hb 4 h 4 [(0, .ref v0), (1, .int v1), (2, .int t2), (3, .int t3)] [] 0 0 := by
    intro n
    induction n with
    | zero => intro t2 t3 hz; cases hz
    | succ n ih4 =>
      intro t2 t3 hz
      obtain ⟨x4, hf1, hk4⟩ := wl hz
      replace hf1 : f_X12_leftAt_b4 h v0 v1 t2 t3 = some x4 := hf1
      unfold f_X12_leftAt_b4 at hf1
      have J29 : ∀ (t4 : Int32) (t5 : Int32) (t6 : Int32), f_X12_leftAt_j29 h v0 v1 t4 t5 t6 = some x4 → gW p l e (rmO 3 0 0) s m args below meth c (MQ below (eQ D cA B Hb h (some (.int out))) args s 0 0 (fun q => B ≤ q)) D cA B Hb 4 h 29 [(0, .ref v0), (1, .int v1), (3, .int t4)] [.int t6, .int t5] 0 0 := by
        intro t4 t5 t6 hf1
        unfold f_X12_leftAt_j29 at hf1
        refine r_iadd C dX12_leftAt_29 ?_
        obtain ⟨t7, e8, hf1⟩ := ob hf1
        refine r_istore_n (lv' := [(2, .int t7), (0, .ref v0), (1, .int v1), (3, .int t4)]) C dX12_leftAt_30 (by decide) e8 rfl ?_
        obtain ⟨t9, e10, hf1⟩ := ob hf1
        refine r_iinc (lv' := [(3, .int t9), (2, .int t7), (0, .ref v0), (1, .int v1)]) C dX12_leftAt_31 rfl e10 (by decide) rfl ?_
        refine r_goto (tgt := 4) C dX12_leftAt_34 (by decide) ?_
        obtain rfl := so hf1
        refine r_subk [2, 3, 1, 0] (lv' := [(0, .ref v0), (1, .int v1), (2, .int t7), (3, .int t9)]) rfl ?_
        exact ih4 t7 t9 hk4
      refine r_iload_n C dX12_leftAt_4 rfl ?_
      refine r_aload_n C dX12_leftAt_5 rfl ?_
      obtain ⟨t11, e12, hf1⟩ := ob hf1
      refine r_getR C fk_X12_7 rfl dX12_leftAt_6 e12 ?_
      refine r_iconst (v := 2) C dX12_leftAt_9 (by decide) ?_
      obtain ⟨t13, e14, hf1⟩ := ob hf1
      refine r_ldI C dX12_leftAt_10 e14 ?_
      refine r_icmp_ge (tgt := 37) C dX12_leftAt_11 (by decide) (fun c15 => ?_) (fun c15 => ?_)
      · rw [if_pos c15] at hf1
        obtain rfl := so hf1
        obtain rfl := so (show some t2 = some y1 from hk4)
        refine r_iload_n C dX12_leftAt_37 rfl ?_
        obtain rfl := so hf0
        exact r_iret C dX12_leftAt_38
      · rw [if_neg c15] at hf1
        refine r_iload_n C dX12_leftAt_14 rfl ?_
        refine r_aload_n C dX12_leftAt_15 rfl ?_
        refine r_iload_n C dX12_leftAt_16 rfl ?_
        refine r_iload_n C dX12_leftAt_17 rfl ?_
        obtain ⟨u17, e16, hf1⟩ := ob hf1
        obtain ⟨t18, e19, hf1⟩ := ob hf1
        refine r_cV (ci := 12) (rest := [.int t2]) (st2 := [.int t18, .int t2]) C (s_X12_isLeftAt e19) mk_X12_isLeftAt rfl (ck_k e16) (by decide) im_X12_isLeftAt sl_X12_isLeftAt lk_X12_381 rfl rfl rfl dX12_leftAt_18 (Nat.le_of_ble_eq_true rfl) ⟨Nat.le_of_ble_eq_true rfl, Nat.le_of_ble_eq_true rfl⟩ ⟨Nat.le_of_ble_eq_true rfl, Nat.le_of_ble_eq_true rfl⟩ ?_
        refine r_ifeq (tgt := 28) C dX12_leftAt_21 (by decide) (fun c20 => ?_) (fun c20 => ?_)
        · rw [if_pos c20] at hf1
          refine r_iconst (v := 0) C dX12_leftAt_28 (by decide) ?_
          refine r_subk [0, 1, 3] (lv' := [(0, .ref v0), (1, .int v1), (3, .int t3)]) rfl ?_
          exact J29 t3 t2 (0 : Int32) hf1
        · rw [if_neg c20] at hf1
          refine r_iconst (v := 1) C dX12_leftAt_24 (by decide) ?_
          refine r_goto (tgt := 29) C dX12_leftAt_25 (by decide) ?_
          refine r_subk [0, 1, 3] (lv' := [(0, .ref v0), (1, .int v1), (3, .int t3)]) rfl ?_
          exact J29 t3 t2 (1 : Int32) hf1
  refine r_subk [2, 3, 1, 0] (lv' := [(0, .ref v0), (1, .int v1), (2, .int (0 : Int32)), (3, .int (0 : Int32))]) rfl ?_
  exact L4 wN (0 : Int32) (0 : Int32) hl4
def f_X12_sureAt_j74 (h : aH) (v0 : Nat) (v1 : Int32) (v2 : Int32) (v3 : Int32) (v4 : Int32) (v5 : Int32) : Option ((Int32 × Int32 × Int32) ⊕ (Int32 × Int32)) := (some (v5 + (1 : Int32))).bind fun t1 => some (.inl (v3, v4, t1))
def f_X12_sureAt_j72 (h : aH) (v0 : Nat) (v1 : Int32) (v2 : Int32) (v3 : Int32) (v5 : Int32) (s0 : Int32) : Option ((Int32 × Int32 × Int32) ⊕ (Int32 × Int32)) := f_X12_sureAt_j74 h v0 v1 v2 v3 s0 v5
def f_X12_sureAt_j67 (h : aH) (v0 : Nat) (v1 : Int32) (v2 : Int32) (v3 : Int32) (v5 : Int32) : Option ((Int32 × Int32 × Int32) ⊕ (Int32 × Int32)) := f_X12_sureAt_j72 h v0 v1 v2 v3 v5 (1 : Int32)
def f_X12_sureAt_j51 (h : aH) (v0 : Nat) (v1 : Int32) (v2 : Int32) (v4 : Int32) (v5 : Int32) (s0 : Int32) : Option ((Int32 × Int32 × Int32) ⊕ (Int32 × Int32)) := if v4 = 0 then (ck h 12 v0).bind fun _ => (f_X12_isIn h v0 v2 v5).bind fun t2 => if t2 = 0 then f_X12_sureAt_j67 h v0 v1 v2 s0 v5 else f_X12_sureAt_j72 h v0 v1 v2 s0 v5 (0 : Int32) else f_X12_sureAt_j67 h v0 v1 v2 s0 v5
def f_X12_sureAt_j46 (h : aH) (v0 : Nat) (v1 : Int32) (v2 : Int32) (v4 : Int32) (v5 : Int32) : Option ((Int32 × Int32 × Int32) ⊕ (Int32 × Int32)) := f_X12_sureAt_j51 h v0 v1 v2 v4 v5 (1 : Int32)
def f_X12_sureAt_b8 (h : aH) (v0 : Nat) (v1 : Int32) (v2 : Int32) (v3 : Int32) (v4 : Int32) (v5 : Int32) : Option ((Int32 × Int32 × Int32) ⊕ (Int32 × Int32)) := (gR h 12 v0 0).bind fun t3 => (lI h t3 (2 : Int32)).bind fun t4 => if t4 ≤ v5 then some (.inr (v3, v4)) else (ck h 12 v0).bind fun _ => (f_X12_isLeftAt h v0 v1 v5).bind fun t5 => if t5 = 0 then f_X12_sureAt_j74 h v0 v1 v2 v3 v4 v5 else if v3 = 0 then (ck h 12 v0).bind fun _ => (f_X12_isIn h v0 v2 v5).bind fun t6 => if t6 = 0 then f_X12_sureAt_j51 h v0 v1 v2 v4 v5 (0 : Int32) else f_X12_sureAt_j46 h v0 v1 v2 v4 v5 else f_X12_sureAt_j46 h v0 v1 v2 v4 v5
def f_X12_sureAt_l8 (h : aH) (v0 : Nat) (v1 : Int32) (v2 : Int32) (v3 : Int32) (v4 : Int32) (v5 : Int32) : Option (Int32 × Int32) := whileL wN (fun q : Int32 × Int32 × Int32 => f_X12_sureAt_b8 h v0 v1 v2 q.1 q.2.1 q.2.2) (v3, v4, v5)
def f_X12_sureAt (h : aH) (v0 : Nat) (v1 : Int32) (v2 : Int32) : Option (Int32) := bd2 (f_X12_sureAt_l8 h v0 v1 v2 (0 : Int32) (0 : Int32) (0 : Int32)) fun t7 t8 => if t7 = t8 then some (-1 : Int32) else if t7 = 0 then some (0 : Int32) else some (1 : Int32)
theorem s_X12_sureAt {h : aH} {v0 : Nat} {v1 : Int32} {v2 : Int32} {out : Int32} (hf0 : f_X12_sureAt h v0 v1 v2 = some out) : EV 3 yX12_sureAt cX12_sureAt 6 (some .int) h [.ref v0, .int v1, .int v2] (some (.int out)) h 0 0 := by
  refine EV.of (own := RX12) (lv0 := [(0, .ref v0), (1, .int v1), (2, .int v2)]) (by decide +kernel) rfl rfl (Nat.le_of_ble_eq_true rfl) ?_
  intro p l e s m args below meth c D cA B Hb C hin
  unfold f_X12_sureAt at hf0
  refine r_iconst (v := 0) C dX12_sureAt_0 (by decide) ?_
  refine r_istore_n (lv' := [(3, .int (0 : Int32)), (0, .ref v0), (1, .int v1), (2, .int v2)]) C dX12_sureAt_1 (by decide) rfl rfl ?_
  refine r_iconst (v := 0) C dX12_sureAt_2 (by decide) ?_
  refine r_istore (lv' := [(4, .int (0 : Int32)), (3, .int (0 : Int32)), (0, .ref v0), (1, .int v1), (2, .int v2)]) C dX12_sureAt_3 (by decide) rfl rfl ?_
  refine r_iconst (v := 0) C dX12_sureAt_5 (by decide) ?_
  refine r_istore (lv' := [(5, .int (0 : Int32)), (4, .int (0 : Int32)), (3, .int (0 : Int32)), (0, .ref v0), (1, .int v1), (2, .int v2)]) C dX12_sureAt_6 (by decide) rfl rfl ?_
  obtain ⟨y1, y2, hl8, hf0⟩ := ob2 hf0
  have L8 : ∀ (n : Nat) (t3 : Int32) (t4 : Int32) (t5 : Int32), whileL n (fun q : Int32 × Int32 × Int32 => f_X12_sureAt_b8 h v0 v1 v2 q.1 q.2.1 q.2.2) (t3, t4, t5) = some (y1, y2) → gW p l e (rmO 3 0 0) s m args below meth c (MQ below (eQ D cA B Hb h (some (.int out))) args s 0 0 (fun q => B ≤ q)) D cA B Hb 6 h 8 [(0, .ref v0), (1, .int v1), (2, .int v2), (3, .int t3), (4, .int t4), (5, .int t5)] [] 0 0 := by
    intro n
    induction n with
    | zero => intro t3 t4 t5 hz; cases hz
    | succ n ih8 =>
      intro t3 t4 t5 hz
      obtain ⟨x8, hf1, hk8⟩ := wl hz
      replace hf1 : f_X12_sureAt_b8 h v0 v1 v2 t3 t4 t5 = some x8 := hf1
      unfold f_X12_sureAt_b8 at hf1
      have J74 : ∀ (t6 : Int32) (t7 : Int32) (t8 : Int32), f_X12_sureAt_j74 h v0 v1 v2 t6 t7 t8 = some x8 → gW p l e (rmO 3 0 0) s m args below meth c (MQ below (eQ D cA B Hb h (some (.int out))) args s 0 0 (fun q => B ≤ q)) D cA B Hb 6 h 74 [(0, .ref v0), (1, .int v1), (2, .int v2), (3, .int t6), (4, .int t7), (5, .int t8)] [] 0 0 := by
        intro t6 t7 t8 hf1
        unfold f_X12_sureAt_j74 at hf1
        obtain ⟨t9, e10, hf1⟩ := ob hf1
        refine r_iinc (lv' := [(5, .int t9), (0, .ref v0), (1, .int v1), (2, .int v2), (3, .int t6), (4, .int t7)]) C dX12_sureAt_74 rfl e10 (by decide) rfl ?_
        refine r_goto (tgt := 8) C dX12_sureAt_77 (by decide) ?_
        obtain rfl := so hf1
        refine r_subk [1, 2, 3, 4, 5, 0] (lv' := [(0, .ref v0), (1, .int v1), (2, .int v2), (3, .int t6), (4, .int t7), (5, .int t9)]) rfl ?_
        exact ih8 t6 t7 t9 hk8
      have J72 : ∀ (t11 : Int32) (t12 : Int32) (t13 : Int32), f_X12_sureAt_j72 h v0 v1 v2 t11 t12 t13 = some x8 → gW p l e (rmO 3 0 0) s m args below meth c (MQ below (eQ D cA B Hb h (some (.int out))) args s 0 0 (fun q => B ≤ q)) D cA B Hb 6 h 72 [(0, .ref v0), (1, .int v1), (2, .int v2), (3, .int t11), (5, .int t12)] [.int t13] 0 0 := by
        intro t11 t12 t13 hf1
        unfold f_X12_sureAt_j72 at hf1
        refine r_istore (lv' := [(4, .int t13), (0, .ref v0), (1, .int v1), (2, .int v2), (3, .int t11), (5, .int t12)]) C dX12_sureAt_72 (by decide) rfl rfl ?_
        refine r_subk [1, 2, 3, 4, 0, 5] (lv' := [(0, .ref v0), (1, .int v1), (2, .int v2), (3, .int t11), (4, .int t13), (5, .int t12)]) rfl ?_
        exact J74 t11 t13 t12 hf1
      have J67 : ∀ (t14 : Int32) (t15 : Int32), f_X12_sureAt_j67 h v0 v1 v2 t14 t15 = some x8 → gW p l e (rmO 3 0 0) s m args below meth c (MQ below (eQ D cA B Hb h (some (.int out))) args s 0 0 (fun q => B ≤ q)) D cA B Hb 6 h 67 [(0, .ref v0), (1, .int v1), (2, .int v2), (3, .int t14), (5, .int t15)] [] 0 0 := by
        intro t14 t15 hf1
        unfold f_X12_sureAt_j67 at hf1
        refine r_iconst (v := 1) C dX12_sureAt_67 (by decide) ?_
        refine r_goto (tgt := 72) C dX12_sureAt_68 (by decide) ?_
        exact J72 t14 t15 (1 : Int32) hf1
      have J51 : ∀ (t16 : Int32) (t17 : Int32) (t18 : Int32), f_X12_sureAt_j51 h v0 v1 v2 t16 t17 t18 = some x8 → gW p l e (rmO 3 0 0) s m args below meth c (MQ below (eQ D cA B Hb h (some (.int out))) args s 0 0 (fun q => B ≤ q)) D cA B Hb 6 h 51 [(0, .ref v0), (1, .int v1), (2, .int v2), (4, .int t16), (5, .int t17)] [.int t18] 0 0 := by
        intro t16 t17 t18 hf1
        unfold f_X12_sureAt_j51 at hf1
        refine r_istore_n (lv' := [(3, .int t18), (0, .ref v0), (1, .int v1), (2, .int v2), (4, .int t16), (5, .int t17)]) C dX12_sureAt_51 (by decide) rfl rfl ?_
        refine r_iload C dX12_sureAt_52 rfl ?_
        refine r_ifne (tgt := 67) C dX12_sureAt_54 (by decide) (fun c19 => ?_) (fun c19 => ?_)
        · rw [if_neg c19] at hf1
          refine r_subk [1, 2, 3, 0, 5] (lv' := [(0, .ref v0), (1, .int v1), (2, .int v2), (3, .int t18), (5, .int t17)]) rfl ?_
          exact J67 t18 t17 hf1
        · rw [if_pos c19] at hf1
          refine r_aload_n C dX12_sureAt_57 rfl ?_
          refine r_iload_n C dX12_sureAt_58 rfl ?_
          refine r_iload C dX12_sureAt_59 rfl ?_
          obtain ⟨u21, e20, hf1⟩ := ob hf1
          obtain ⟨t22, e23, hf1⟩ := ob hf1
          refine r_cV (ci := 12) (rest := []) (st2 := [.int t22]) C (s_X12_isIn e23) mk_X12_isIn rfl (ck_k e20) (by decide) im_X12_isIn sl_X12_isIn lk_X12_337 rfl rfl rfl dX12_sureAt_61 (Nat.le_of_ble_eq_true rfl) ⟨Nat.le_of_ble_eq_true rfl, Nat.le_of_ble_eq_true rfl⟩ ⟨Nat.le_of_ble_eq_true rfl, Nat.le_of_ble_eq_true rfl⟩ ?_
          refine r_ifne (tgt := 71) C dX12_sureAt_64 (by decide) (fun c24 => ?_) (fun c24 => ?_)
          · rw [if_neg c24] at hf1
            refine r_iconst (v := 0) C dX12_sureAt_71 (by decide) ?_
            refine r_subk [1, 2, 3, 0, 5] (lv' := [(0, .ref v0), (1, .int v1), (2, .int v2), (3, .int t18), (5, .int t17)]) rfl ?_
            exact J72 t18 t17 (0 : Int32) hf1
          · rw [if_pos c24] at hf1
            refine r_subk [1, 2, 3, 0, 5] (lv' := [(0, .ref v0), (1, .int v1), (2, .int v2), (3, .int t18), (5, .int t17)]) rfl ?_
            exact J67 t18 t17 hf1
      have J46 : ∀ (t25 : Int32) (t26 : Int32), f_X12_sureAt_j46 h v0 v1 v2 t25 t26 = some x8 → gW p l e (rmO 3 0 0) s m args below meth c (MQ below (eQ D cA B Hb h (some (.int out))) args s 0 0 (fun q => B ≤ q)) D cA B Hb 6 h 46 [(0, .ref v0), (1, .int v1), (2, .int v2), (4, .int t25), (5, .int t26)] [] 0 0 := by
        intro t25 t26 hf1
        unfold f_X12_sureAt_j46 at hf1
        refine r_iconst (v := 1) C dX12_sureAt_46 (by decide) ?_
        refine r_goto (tgt := 51) C dX12_sureAt_47 (by decide) ?_
        exact J51 t25 t26 (1 : Int32) hf1
      refine r_iload C dX12_sureAt_8 rfl ?_
      refine r_aload_n C dX12_sureAt_10 rfl ?_
      obtain ⟨t27, e28, hf1⟩ := ob hf1
      refine r_getR C fk_X12_7 rfl dX12_sureAt_11 e28 ?_
      refine r_iconst (v := 2) C dX12_sureAt_14 (by decide) ?_
      obtain ⟨t29, e30, hf1⟩ := ob hf1
      refine r_ldI C dX12_sureAt_15 e30 ?_
      refine r_icmp_ge (tgt := 80) C dX12_sureAt_16 (by decide) (fun c31 => ?_) (fun c31 => ?_)
      · rw [if_pos c31] at hf1
        obtain rfl := so hf1
        obtain ⟨rfl, rfl⟩ := so2 (show some (t3, t4) = some (y1, y2) from hk8)
        refine r_iload_n C dX12_sureAt_80 rfl ?_
        refine r_iload C dX12_sureAt_81 rfl ?_
        refine r_icmp_ne (tgt := 90) C dX12_sureAt_83 (by decide) (fun c32 => ?_) (fun c32 => ?_)
        · rw [if_neg c32] at hf0
          refine r_iload_n C dX12_sureAt_90 rfl ?_
          refine r_ifeq (tgt := 98) C dX12_sureAt_91 (by decide) (fun c33 => ?_) (fun c33 => ?_)
          · rw [if_pos c33] at hf0
            refine r_iconst (v := 0) C dX12_sureAt_98 (by decide) ?_
            obtain rfl := so hf0
            exact r_iret C dX12_sureAt_99
          · rw [if_neg c33] at hf0
            refine r_iconst (v := 1) C dX12_sureAt_94 (by decide) ?_
            refine r_goto (tgt := 99) C dX12_sureAt_95 (by decide) ?_
            obtain rfl := so hf0
            exact r_iret C dX12_sureAt_99
        · rw [if_pos c32] at hf0
          refine r_iconst (v := -1) C dX12_sureAt_86 (by decide) ?_
          refine r_goto (tgt := 99) C dX12_sureAt_87 (by decide) ?_
          obtain rfl := so hf0
          exact r_iret C dX12_sureAt_99
      · rw [if_neg c31] at hf1
        refine r_aload_n C dX12_sureAt_19 rfl ?_
        refine r_iload_n C dX12_sureAt_20 rfl ?_
        refine r_iload C dX12_sureAt_21 rfl ?_
        obtain ⟨u35, e34, hf1⟩ := ob hf1
        obtain ⟨t36, e37, hf1⟩ := ob hf1
        refine r_cV (ci := 12) (rest := []) (st2 := [.int t36]) C (s_X12_isLeftAt e37) mk_X12_isLeftAt rfl (ck_k e34) (by decide) im_X12_isLeftAt sl_X12_isLeftAt lk_X12_381 rfl rfl rfl dX12_sureAt_23 (Nat.le_of_ble_eq_true rfl) ⟨Nat.le_of_ble_eq_true rfl, Nat.le_of_ble_eq_true rfl⟩ ⟨Nat.le_of_ble_eq_true rfl, Nat.le_of_ble_eq_true rfl⟩ ?_
        refine r_ifne (tgt := 32) C dX12_sureAt_26 (by decide) (fun c38 => ?_) (fun c38 => ?_)
        · rw [if_neg c38] at hf1
          refine r_iload_n C dX12_sureAt_32 rfl ?_
          refine r_ifne (tgt := 46) C dX12_sureAt_33 (by decide) (fun c39 => ?_) (fun c39 => ?_)
          · rw [if_neg c39] at hf1
            refine r_subk [0, 1, 2, 4, 5] (lv' := [(0, .ref v0), (1, .int v1), (2, .int v2), (4, .int t4), (5, .int t5)]) rfl ?_
            exact J46 t4 t5 hf1
          · rw [if_pos c39] at hf1
            refine r_aload_n C dX12_sureAt_36 rfl ?_
            refine r_iload_n C dX12_sureAt_37 rfl ?_
            refine r_iload C dX12_sureAt_38 rfl ?_
            obtain ⟨u41, e40, hf1⟩ := ob hf1
            obtain ⟨t42, e43, hf1⟩ := ob hf1
            refine r_cV (ci := 12) (rest := []) (st2 := [.int t42]) C (s_X12_isIn e43) mk_X12_isIn rfl (ck_k e40) (by decide) im_X12_isIn sl_X12_isIn lk_X12_337 rfl rfl rfl dX12_sureAt_40 (Nat.le_of_ble_eq_true rfl) ⟨Nat.le_of_ble_eq_true rfl, Nat.le_of_ble_eq_true rfl⟩ ⟨Nat.le_of_ble_eq_true rfl, Nat.le_of_ble_eq_true rfl⟩ ?_
            refine r_ifeq (tgt := 50) C dX12_sureAt_43 (by decide) (fun c44 => ?_) (fun c44 => ?_)
            · rw [if_pos c44] at hf1
              refine r_iconst (v := 0) C dX12_sureAt_50 (by decide) ?_
              refine r_subk [0, 1, 2, 4, 5] (lv' := [(0, .ref v0), (1, .int v1), (2, .int v2), (4, .int t4), (5, .int t5)]) rfl ?_
              exact J51 t4 t5 (0 : Int32) hf1
            · rw [if_neg c44] at hf1
              refine r_subk [0, 1, 2, 4, 5] (lv' := [(0, .ref v0), (1, .int v1), (2, .int v2), (4, .int t4), (5, .int t5)]) rfl ?_
              exact J46 t4 t5 hf1
        · rw [if_pos c38] at hf1
          refine r_goto (tgt := 74) C dX12_sureAt_29 (by decide) ?_
          exact J74 t3 t4 t5 hf1
  refine r_subk [3, 4, 5, 2, 1, 0] (lv' := [(0, .ref v0), (1, .int v1), (2, .int v2), (3, .int (0 : Int32)), (4, .int (0 : Int32)), (5, .int (0 : Int32))]) rfl ?_
  exact L8 wN (0 : Int32) (0 : Int32) (0 : Int32) hl8
