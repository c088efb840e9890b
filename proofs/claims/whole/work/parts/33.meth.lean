def f_X11_refuse (h : aH) (v0 : Nat) (v1 : Int32) : Option (Int32 × aH) := (pI h 11 v0 17 v1).bind fun h1 => some ((-1 : Int32), h1)
theorem s_X11_refuse {h : aH} {v0 : Nat} {v1 : Int32} {out : Int32 × aH} (hf0 : f_X11_refuse h v0 v1 = some out) : EV 0 yX11_refuse cX11_refuse 2 (some .int) h [.ref v0, .int v1] (some (.int out.1)) out.2 0 0 := by
  refine EV.of (own := RX11) (lv0 := [(0, .ref v0), (1, .int v1)]) (by decide +kernel) rfl rfl (Nat.le_of_ble_eq_true rfl) ?_
  intro p l e s m args below meth c D cA B Hb C hin
  unfold f_X11_refuse at hf0
  refine r_aload_n C dX11_refuse_0 rfl ?_
  refine r_iload_n C dX11_refuse_1 rfl ?_
  obtain ⟨h1, e2, hf0⟩ := ob hf0
  refine r_putI C fk_X11_63 dX11_refuse_2 e2 ?_
  refine r_iconst (v := -1) C dX11_refuse_5 (by decide) ?_
  obtain rfl := so hf0
  exact r_iret C dX11_refuse_6
def f_X11_read (h : aH) (v0 : Nat) (v1 : Int32) (v2 : Int32) : Option (Int64 × aH) := (ck h 11 v0).bind fun _ => (f_X11_whyNoPlace h v0 v1 v2).bind fun t1 => if t1 = 0 then (pI h 11 v0 17 (0 : Int32)).bind fun h2 => (gR h2 11 v0 2).bind fun t3 => (lJ h2 t3 ((v1 * (60 : Int32)) + v2)).bind fun t4 => some (t4, h2) else (ck h 11 v0).bind fun _ => bd2 (f_X11_refuse h v0 t1) fun t5 h6 => some (Int32.toInt64 t5, h6)
theorem s_X11_read {h : aH} {v0 : Nat} {v1 : Int32} {v2 : Int32} {out : Int64 × aH} (hf0 : f_X11_read h v0 v1 v2 = some out) : EV 2 yX11_read cX11_read 4 (some .long) h [.ref v0, .int v1, .int v2] (some (.long out.1)) out.2 0 0 := by
  refine EV.of (own := RX11) (lv0 := [(0, .ref v0), (1, .int v1), (2, .int v2)]) (by decide +kernel) rfl rfl (Nat.le_of_ble_eq_true rfl) ?_
  intro p l e s m args below meth c D cA B Hb C hin
  unfold f_X11_read at hf0
  refine r_aload_n C dX11_read_0 rfl ?_
  refine r_iload_n C dX11_read_1 rfl ?_
  refine r_iload_n C dX11_read_2 rfl ?_
  obtain ⟨u2, e1, hf0⟩ := ob hf0
  obtain ⟨t3, e4, hf0⟩ := ob hf0
  refine r_cV (ci := 11) (rest := []) (st2 := [.int t3]) C (s_X11_whyNoPlace e4) mk_X11_whyNoPlace rfl (ck_k e1) (by decide) im_X11_whyNoPlace sl_X11_whyNoPlace lk_X11_134 rfl rfl rfl dX11_read_3 (Nat.le_of_ble_eq_true rfl) ⟨Nat.le_of_ble_eq_true rfl, Nat.le_of_ble_eq_true rfl⟩ ⟨Nat.le_of_ble_eq_true rfl, Nat.le_of_ble_eq_true rfl⟩ ?_
  refine r_istore_n (lv' := [(3, .int t3), (0, .ref v0), (1, .int v1), (2, .int v2)]) C dX11_read_6 (by decide) rfl rfl ?_
  refine r_iload_n C dX11_read_7 rfl ?_
  refine r_ifeq (tgt := 18) C dX11_read_8 (by decide) (fun c5 => ?_) (fun c5 => ?_)
  · rw [if_pos c5] at hf0
    refine r_aload_n C dX11_read_18 rfl ?_
    refine r_iconst (v := 0) C dX11_read_19 (by decide) ?_
    obtain ⟨h6, e7, hf0⟩ := ob hf0
    refine r_putI C fk_X11_63 dX11_read_20 e7 ?_
    refine r_aload_n C dX11_read_23 rfl ?_
    obtain ⟨t8, e9, hf0⟩ := ob hf0
    refine r_getR C fk_X11_16 rfl dX11_read_24 e9 ?_
    refine r_iload_n C dX11_read_27 rfl ?_
    refine r_bipush (v := 60) C dX11_read_28 (by decide) ?_
    refine r_imul C dX11_read_30 ?_
    refine r_iload_n C dX11_read_31 rfl ?_
    refine r_iadd C dX11_read_32 ?_
    obtain ⟨t10, e11, hf0⟩ := ob hf0
    refine r_ldJ C dX11_read_33 e11 ?_
    obtain rfl := so hf0
    exact r_lret C dX11_read_34
  · rw [if_neg c5] at hf0
    refine r_aload_n C dX11_read_11 rfl ?_
    refine r_iload_n C dX11_read_12 rfl ?_
    obtain ⟨u13, e12, hf0⟩ := ob hf0
    obtain ⟨t14, h15, e16, hf0⟩ := ob2 hf0
    refine r_cV (ci := 11) (rest := []) (st2 := [.int t14]) C (s_X11_refuse e16) mk_X11_refuse rfl (ck_k e12) (by decide) im_X11_refuse sl_X11_refuse lk_X11_142 rfl rfl rfl dX11_read_13 (Nat.le_of_ble_eq_true rfl) ⟨Nat.le_of_ble_eq_true rfl, Nat.le_of_ble_eq_true rfl⟩ ⟨Nat.le_of_ble_eq_true rfl, Nat.le_of_ble_eq_true rfl⟩ ?_
    refine r_i2l C dX11_read_16 ?_
    obtain rfl := so hf0
    exact r_lret C dX11_read_17
def f_X11_pour_j119 (h : aH) (v0 : Nat) : Option (Int32 × aH) := (ck h 11 v0).bind fun _ => bd2 (f_X11_deny h v0 (3 : Int32)) fun t1 h2 => (rZ t1).bind fun t3 => some (t3, h2)
def f_X11_pour_j56 (h : aH) (v0 : Nat) : Option (Int32 × aH) := (ck h 11 v0).bind fun _ => bd2 (f_X11_deny h v0 (2 : Int32)) fun t4 h5 => (rZ t4).bind fun t6 => some (t6, h5)
def f_X11_pour_j30 (h : aH) (v0 : Nat) : Option (Int32 × aH) := (ck h 11 v0).bind fun _ => bd2 (f_X11_deny h v0 (1 : Int32)) fun t7 h8 => (rZ t7).bind fun t9 => some (t9, h8)
def f_X11_pour (h : aH) (v0 : Nat) (v1 : Int32) (v2 : Int32) (v3 : Int32) (v4 : Int32) (v5 : Int32) : Option (Int32 × aH) := (f_X11_below h v1 (4 : Int32)).bind fun t10 => if t10 = 0 then f_X11_pour_j30 h v0 else (f_X11_below h v3 (4 : Int32)).bind fun t11 => if t11 = 0 then f_X11_pour_j30 h v0 else if v2 < 0 then f_X11_pour_j30 h v0 else if v4 < 0 then f_X11_pour_j30 h v0 else if 0 ≤ v5 then (gR h 11 v0 0).bind fun t12 => (lI h t12 v1).bind fun t13 => if t13 = (-1 : Int32) then f_X11_pour_j56 h v0 else (gR h 11 v0 0).bind fun t14 => (lI h t14 v3).bind fun t15 => if t15 = (-1 : Int32) then f_X11_pour_j56 h v0 else (gR h 11 v0 0).bind fun t16 => (lI h t16 v1).bind fun t17 => (gR h 11 v0 0).bind fun t18 => (lI h t18 v3).bind fun t19 => if t17 = t19 then (gR h 11 v0 1).bind fun t20 => (lI h t20 v1).bind fun t21 => if 0 < (lg_cmp ((Int32.toInt64 v2) + (Int32.toInt64 v5)) (Int32.toInt64 t21)) then f_X11_pour_j119 h v0 else (gR h 11 v0 1).bind fun t22 => (lI h t22 v3).bind fun t23 => if (lg_cmp ((Int32.toInt64 v4) + (Int32.toInt64 v5)) (Int32.toInt64 t23)) ≤ 0 then (gR h 11 v0 2).bind fun t24 => (gR h 11 v0 2).bind fun t25 => (cpJ h t24 ((v1 * (60 : Int32)) + v2) t25 ((v3 * (60 : Int32)) + v4) v5).bind fun h26 => (ck h26 11 v0).bind fun _ => bd2 (f_X11_grant h26 v0) fun t27 h28 => (rZ t27).bind fun t29 => some (t29, h28) else f_X11_pour_j119 h v0 else (ck h 11 v0).bind fun _ => bd2 (f_X11_deny h v0 (8 : Int32)) fun t30 h31 => (rZ t30).bind fun t32 => some (t32, h31) else f_X11_pour_j30 h v0
theorem s_X11_pour {h : aH} {v0 : Nat} {v1 : Int32} {v2 : Int32} {v3 : Int32} {v4 : Int32} {v5 : Int32} {out : Int32 × aH} (hf0 : f_X11_pour h v0 v1 v2 v3 v4 v5 = some out) : EV 1 yX11_pour cX11_pour 6 (some .boolean) h [.ref v0, .int v1, .int v2, .int v3, .int v4, .int v5] (some (.int out.1)) out.2 0 0 := by
  refine EV.of (own := RX11) (lv0 := [(0, .ref v0), (1, .int v1), (2, .int v2), (3, .int v3), (4, .int v4), (5, .int v5)]) (by decide +kernel) rfl rfl (Nat.le_of_ble_eq_true rfl) ?_
  intro p l e s m args below meth c D cA B Hb C hin
  unfold f_X11_pour at hf0
  have J119 : ∀ (h1 : aH) (t2 : Nat), f_X11_pour_j119 h1 t2 = some out → gW p l e (rmO 1 0 0) s m args below meth c (MQ below (eQ D cA B Hb out.2 (some (.int out.1))) args s 0 0 (fun q => B ≤ q)) D cA B Hb 6 h1 119 [(0, .ref t2)] [] 0 0 := by
    intro h1 t2 hf0
    unfold f_X11_pour_j119 at hf0
    refine r_aload_n C dX11_pour_119 rfl ?_
    refine r_iconst (v := 3) C dX11_pour_120 (by decide) ?_
    obtain ⟨u4, e3, hf0⟩ := ob hf0
    obtain ⟨t5, h6, e7, hf0⟩ := ob2 hf0
    refine r_cV (ci := 11) (rest := []) (st2 := [.int t5]) C (s_X11_deny e7) mk_X11_deny rfl (ck_k e3) (by decide) im_X11_deny sl_X11_deny lk_X11_123 rfl rfl rfl dX11_pour_121 (Nat.le_of_ble_eq_true rfl) ⟨Nat.le_of_ble_eq_true rfl, Nat.le_of_ble_eq_true rfl⟩ ⟨Nat.le_of_ble_eq_true rfl, Nat.le_of_ble_eq_true rfl⟩ ?_
    obtain ⟨t8, e9, hf0⟩ := ob hf0
    obtain ⟨rfl, e9z⟩ := rZ_k e9
    obtain rfl := so hf0
    exact r_zret C dX11_pour_124 e9z
  have J56 : ∀ (h10 : aH) (t11 : Nat), f_X11_pour_j56 h10 t11 = some out → gW p l e (rmO 1 0 0) s m args below meth c (MQ below (eQ D cA B Hb out.2 (some (.int out.1))) args s 0 0 (fun q => B ≤ q)) D cA B Hb 6 h10 56 [(0, .ref t11)] [] 0 0 := by
    intro h10 t11 hf0
    unfold f_X11_pour_j56 at hf0
    refine r_aload_n C dX11_pour_56 rfl ?_
    refine r_iconst (v := 2) C dX11_pour_57 (by decide) ?_
    obtain ⟨u13, e12, hf0⟩ := ob hf0
    obtain ⟨t14, h15, e16, hf0⟩ := ob2 hf0
    refine r_cV (ci := 11) (rest := []) (st2 := [.int t14]) C (s_X11_deny e16) mk_X11_deny rfl (ck_k e12) (by decide) im_X11_deny sl_X11_deny lk_X11_123 rfl rfl rfl dX11_pour_58 (Nat.le_of_ble_eq_true rfl) ⟨Nat.le_of_ble_eq_true rfl, Nat.le_of_ble_eq_true rfl⟩ ⟨Nat.le_of_ble_eq_true rfl, Nat.le_of_ble_eq_true rfl⟩ ?_
    obtain ⟨t17, e18, hf0⟩ := ob hf0
    obtain ⟨rfl, e18z⟩ := rZ_k e18
    obtain rfl := so hf0
    exact r_zret C dX11_pour_61 e18z
  have J30 : ∀ (h19 : aH) (t20 : Nat), f_X11_pour_j30 h19 t20 = some out → gW p l e (rmO 1 0 0) s m args below meth c (MQ below (eQ D cA B Hb out.2 (some (.int out.1))) args s 0 0 (fun q => B ≤ q)) D cA B Hb 6 h19 30 [(0, .ref t20)] [] 0 0 := by
    intro h19 t20 hf0
    unfold f_X11_pour_j30 at hf0
    refine r_aload_n C dX11_pour_30 rfl ?_
    refine r_iconst (v := 1) C dX11_pour_31 (by decide) ?_
    obtain ⟨u22, e21, hf0⟩ := ob hf0
    obtain ⟨t23, h24, e25, hf0⟩ := ob2 hf0
    refine r_cV (ci := 11) (rest := []) (st2 := [.int t23]) C (s_X11_deny e25) mk_X11_deny rfl (ck_k e21) (by decide) im_X11_deny sl_X11_deny lk_X11_123 rfl rfl rfl dX11_pour_32 (Nat.le_of_ble_eq_true rfl) ⟨Nat.le_of_ble_eq_true rfl, Nat.le_of_ble_eq_true rfl⟩ ⟨Nat.le_of_ble_eq_true rfl, Nat.le_of_ble_eq_true rfl⟩ ?_
    obtain ⟨t26, e27, hf0⟩ := ob hf0
    obtain ⟨rfl, e27z⟩ := rZ_k e27
    obtain rfl := so hf0
    exact r_zret C dX11_pour_35 e27z
  refine r_iload_n C dX11_pour_0 rfl ?_
  refine r_iconst (v := 4) C dX11_pour_1 (by decide) ?_
  obtain ⟨t28, e29, hf0⟩ := ob hf0
  refine r_cS (rest := []) (st2 := [.int t28]) C (s_X11_below e29) mk_X11_below sm_X11_below lk_X11_119 rfl rfl rfl dX11_pour_2 (Nat.le_of_ble_eq_true rfl) ⟨Nat.le_of_ble_eq_true rfl, Nat.le_of_ble_eq_true rfl⟩ ⟨Nat.le_of_ble_eq_true rfl, Nat.le_of_ble_eq_true rfl⟩ ?_
  refine r_ifeq (tgt := 30) C dX11_pour_5 (by decide) (fun c30 => ?_) (fun c30 => ?_)
  · rw [if_pos c30] at hf0
    refine r_subk [0] (lv' := [(0, .ref v0)]) rfl ?_
    exact J30 h v0 hf0
  · rw [if_neg c30] at hf0
    refine r_iload_n C dX11_pour_8 rfl ?_
    refine r_iconst (v := 4) C dX11_pour_9 (by decide) ?_
    obtain ⟨t31, e32, hf0⟩ := ob hf0
    refine r_cS (rest := []) (st2 := [.int t31]) C (s_X11_below e32) mk_X11_below sm_X11_below lk_X11_119 rfl rfl rfl dX11_pour_10 (Nat.le_of_ble_eq_true rfl) ⟨Nat.le_of_ble_eq_true rfl, Nat.le_of_ble_eq_true rfl⟩ ⟨Nat.le_of_ble_eq_true rfl, Nat.le_of_ble_eq_true rfl⟩ ?_
    refine r_ifeq (tgt := 30) C dX11_pour_13 (by decide) (fun c33 => ?_) (fun c33 => ?_)
    · rw [if_pos c33] at hf0
      refine r_subk [0] (lv' := [(0, .ref v0)]) rfl ?_
      exact J30 h v0 hf0
    · rw [if_neg c33] at hf0
      refine r_iload_n C dX11_pour_16 rfl ?_
      refine r_iflt (tgt := 30) C dX11_pour_17 (by decide) (fun c34 => ?_) (fun c34 => ?_)
      · rw [if_pos c34] at hf0
        refine r_subk [0] (lv' := [(0, .ref v0)]) rfl ?_
        exact J30 h v0 hf0
      · rw [if_neg c34] at hf0
        refine r_iload C dX11_pour_20 rfl ?_
        refine r_iflt (tgt := 30) C dX11_pour_22 (by decide) (fun c35 => ?_) (fun c35 => ?_)
        · rw [if_pos c35] at hf0
          refine r_subk [0] (lv' := [(0, .ref v0)]) rfl ?_
          exact J30 h v0 hf0
        · rw [if_neg c35] at hf0
          refine r_iload C dX11_pour_25 rfl ?_
          refine r_ifge (tgt := 36) C dX11_pour_27 (by decide) (fun c36 => ?_) (fun c36 => ?_)
          · rw [if_pos c36] at hf0
            refine r_aload_n C dX11_pour_36 rfl ?_
            obtain ⟨t37, e38, hf0⟩ := ob hf0
            refine r_getR C fk_X11_9 rfl dX11_pour_37 e38 ?_
            refine r_iload_n C dX11_pour_40 rfl ?_
            obtain ⟨t39, e40, hf0⟩ := ob hf0
            refine r_ldI C dX11_pour_41 e40 ?_
            refine r_iconst (v := -1) C dX11_pour_42 (by decide) ?_
            refine r_icmp_eq (tgt := 56) C dX11_pour_43 (by decide) (fun c41 => ?_) (fun c41 => ?_)
            · rw [if_pos c41] at hf0
              refine r_subk [0] (lv' := [(0, .ref v0)]) rfl ?_
              exact J56 h v0 hf0
            · rw [if_neg c41] at hf0
              refine r_aload_n C dX11_pour_46 rfl ?_
              obtain ⟨t42, e43, hf0⟩ := ob hf0
              refine r_getR C fk_X11_9 rfl dX11_pour_47 e43 ?_
              refine r_iload_n C dX11_pour_50 rfl ?_
              obtain ⟨t44, e45, hf0⟩ := ob hf0
              refine r_ldI C dX11_pour_51 e45 ?_
              refine r_iconst (v := -1) C dX11_pour_52 (by decide) ?_
              refine r_icmp_ne (tgt := 62) C dX11_pour_53 (by decide) (fun c46 => ?_) (fun c46 => ?_)
              · rw [if_neg c46] at hf0
                refine r_aload_n C dX11_pour_62 rfl ?_
                obtain ⟨t47, e48, hf0⟩ := ob hf0
                refine r_getR C fk_X11_9 rfl dX11_pour_63 e48 ?_
                refine r_iload_n C dX11_pour_66 rfl ?_
                obtain ⟨t49, e50, hf0⟩ := ob hf0
                refine r_ldI C dX11_pour_67 e50 ?_
                refine r_aload_n C dX11_pour_68 rfl ?_
                obtain ⟨t51, e52, hf0⟩ := ob hf0
                refine r_getR C fk_X11_9 rfl dX11_pour_69 e52 ?_
                refine r_iload_n C dX11_pour_72 rfl ?_
                obtain ⟨t53, e54, hf0⟩ := ob hf0
                refine r_ldI C dX11_pour_73 e54 ?_
                refine r_icmp_eq (tgt := 84) C dX11_pour_74 (by decide) (fun c55 => ?_) (fun c55 => ?_)
                · rw [if_pos c55] at hf0
                  refine r_iload_n C dX11_pour_84 rfl ?_
                  refine r_i2l C dX11_pour_85 ?_
                  refine r_iload C dX11_pour_86 rfl ?_
                  refine r_i2l C dX11_pour_88 ?_
                  refine r_ladd C dX11_pour_89 ?_
                  refine r_aload_n C dX11_pour_90 rfl ?_
                  obtain ⟨t56, e57, hf0⟩ := ob hf0
                  refine r_getR C fk_X11_13 rfl dX11_pour_91 e57 ?_
                  refine r_iload_n C dX11_pour_94 rfl ?_
                  obtain ⟨t58, e59, hf0⟩ := ob hf0
                  refine r_ldI C dX11_pour_95 e59 ?_
                  refine r_i2l C dX11_pour_96 ?_
                  refine r_lcmp C dX11_pour_97 ?_
                  refine r_ifgt (tgt := 119) C dX11_pour_98 (by decide) (fun c60 => ?_) (fun c60 => ?_)
                  · rw [if_pos c60] at hf0
                    refine r_subk [0] (lv' := [(0, .ref v0)]) rfl ?_
                    exact J119 h v0 hf0
                  · rw [if_neg c60] at hf0
                    refine r_iload C dX11_pour_101 rfl ?_
                    refine r_i2l C dX11_pour_103 ?_
                    refine r_iload C dX11_pour_104 rfl ?_
                    refine r_i2l C dX11_pour_106 ?_
                    refine r_ladd C dX11_pour_107 ?_
                    refine r_aload_n C dX11_pour_108 rfl ?_
                    obtain ⟨t61, e62, hf0⟩ := ob hf0
                    refine r_getR C fk_X11_13 rfl dX11_pour_109 e62 ?_
                    refine r_iload_n C dX11_pour_112 rfl ?_
                    obtain ⟨t63, e64, hf0⟩ := ob hf0
                    refine r_ldI C dX11_pour_113 e64 ?_
                    refine r_i2l C dX11_pour_114 ?_
                    refine r_lcmp C dX11_pour_115 ?_
                    refine r_ifle (tgt := 125) C dX11_pour_116 (by decide) (fun c65 => ?_) (fun c65 => ?_)
                    · rw [if_pos c65] at hf0
                      refine r_aload_n C dX11_pour_125 rfl ?_
                      obtain ⟨t66, e67, hf0⟩ := ob hf0
                      refine r_getR C fk_X11_16 rfl dX11_pour_126 e67 ?_
                      refine r_iload_n C dX11_pour_129 rfl ?_
                      refine r_bipush (v := 60) C dX11_pour_130 (by decide) ?_
                      refine r_imul C dX11_pour_132 ?_
                      refine r_iload_n C dX11_pour_133 rfl ?_
                      refine r_iadd C dX11_pour_134 ?_
                      refine r_aload_n C dX11_pour_135 rfl ?_
                      obtain ⟨t68, e69, hf0⟩ := ob hf0
                      refine r_getR C fk_X11_16 rfl dX11_pour_136 e69 ?_
                      refine r_iload_n C dX11_pour_139 rfl ?_
                      refine r_bipush (v := 60) C dX11_pour_140 (by decide) ?_
                      refine r_imul C dX11_pour_142 ?_
                      refine r_iload C dX11_pour_143 rfl ?_
                      refine r_iadd C dX11_pour_145 ?_
                      refine r_iload C dX11_pour_146 rfl ?_
                      obtain ⟨h70, e71, hf0⟩ := ob hf0
                      refine r_cpJ C lk_X11_146 dX11_pour_148 ⟨Nat.le_of_ble_eq_true rfl, Nat.le_of_ble_eq_true rfl⟩ (by decide) e71 ?_
                      refine r_aload_n C dX11_pour_151 rfl ?_
                      obtain ⟨u73, e72, hf0⟩ := ob hf0
                      obtain ⟨t74, h75, e76, hf0⟩ := ob2 hf0
                      refine r_cV (ci := 11) (rest := []) (st2 := [.int t74]) C (s_X11_grant e76) mk_X11_grant rfl (ck_k e72) (by decide) im_X11_grant sl_X11_grant lk_X11_130 rfl rfl rfl dX11_pour_152 (Nat.le_of_ble_eq_true rfl) ⟨Nat.le_of_ble_eq_true rfl, Nat.le_of_ble_eq_true rfl⟩ ⟨Nat.le_of_ble_eq_true rfl, Nat.le_of_ble_eq_true rfl⟩ ?_
                      obtain ⟨t77, e78, hf0⟩ := ob hf0
                      obtain ⟨rfl, e78z⟩ := rZ_k e78
                      obtain rfl := so hf0
                      exact r_zret C dX11_pour_155 e78z
                    · rw [if_neg c65] at hf0
                      refine r_subk [0] (lv' := [(0, .ref v0)]) rfl ?_
                      exact J119 h v0 hf0
                · rw [if_neg c55] at hf0
                  refine r_aload_n C dX11_pour_77 rfl ?_
                  refine r_bipush (v := 8) C dX11_pour_78 (by decide) ?_
                  obtain ⟨u80, e79, hf0⟩ := ob hf0
                  obtain ⟨t81, h82, e83, hf0⟩ := ob2 hf0
                  refine r_cV (ci := 11) (rest := []) (st2 := [.int t81]) C (s_X11_deny e83) mk_X11_deny rfl (ck_k e79) (by decide) im_X11_deny sl_X11_deny lk_X11_123 rfl rfl rfl dX11_pour_80 (Nat.le_of_ble_eq_true rfl) ⟨Nat.le_of_ble_eq_true rfl, Nat.le_of_ble_eq_true rfl⟩ ⟨Nat.le_of_ble_eq_true rfl, Nat.le_of_ble_eq_true rfl⟩ ?_
                  obtain ⟨t84, e85, hf0⟩ := ob hf0
                  obtain ⟨rfl, e85z⟩ := rZ_k e85
                  obtain rfl := so hf0
                  exact r_zret C dX11_pour_83 e85z
              · rw [if_pos c46] at hf0
                refine r_subk [0] (lv' := [(0, .ref v0)]) rfl ?_
                exact J56 h v0 hf0
          · rw [if_neg c36] at hf0
            refine r_subk [0] (lv' := [(0, .ref v0)]) rfl ?_
            exact J30 h v0 hf0
def f_X11_feed (h : aH) (v0 : Nat) (v1 : Int32) (v2 : Int32) (v3 : Int32) (v4 : Int32) (v5 : Int32) : Option (Int32 × aH) := (gR h 11 v0 3).bind fun t1 => (gI h 4 t1 6).bind fun t2 => if (t2 + (20 : Int32)) ≤ (900 : Int32) then (gR h 11 v0 3).bind fun t3 => (ck h 4 t3).bind fun _ => (f_X4_putBytes h t3 v1).bind fun h4 => (gR h4 11 v0 3).bind fun t5 => (ck h4 4 t5).bind fun _ => (f_X4_putBytes h4 t5 v2).bind fun h6 => (gR h6 11 v0 3).bind fun t7 => (ck h6 4 t7).bind fun _ => (f_X4_putBytes h6 t7 v3).bind fun h8 => (gR h8 11 v0 3).bind fun t9 => (ck h8 4 t9).bind fun _ => (f_X4_putBytes h8 t9 v4).bind fun h10 => (gR h10 11 v0 3).bind fun t11 => (ck h10 4 t11).bind fun _ => (f_X4_putBytes h10 t11 v5).bind fun h12 => (gR h12 11 v0 3).bind fun t13 => (gI h12 4 t13 6).bind fun t14 => some (t14, h12) else some ((-1 : Int32), h)
theorem s_X11_feed {h : aH} {v0 : Nat} {v1 : Int32} {v2 : Int32} {v3 : Int32} {v4 : Int32} {v5 : Int32} {out : Int32 × aH} (hf0 : f_X11_feed h v0 v1 v2 v3 v4 v5 = some out) : EV 1 yX11_feed cX11_feed 6 (some .int) h [.ref v0, .int v1, .int v2, .int v3, .int v4, .int v5] (some (.int out.1)) out.2 0 0 := by
  refine EV.of (own := RX11) (lv0 := [(0, .ref v0), (1, .int v1), (2, .int v2), (3, .int v3), (4, .int v4), (5, .int v5)]) (by decide +kernel) rfl rfl (Nat.le_of_ble_eq_true rfl) ?_
  intro p l e s m args below meth c D cA B Hb C hin
  unfold f_X11_feed at hf0
  refine r_aload_n C dX11_feed_0 rfl ?_
  obtain ⟨t1, e2, hf0⟩ := ob hf0
  refine r_getR C fk_X11_23 rfl dX11_feed_1 e2 ?_
  obtain ⟨t3, e4, hf0⟩ := ob hf0
  refine r_getI C fk_X11_152 rfl dX11_feed_4 e4 ?_
  refine r_bipush (v := 20) C dX11_feed_7 (by decide) ?_
  refine r_iadd C dX11_feed_9 ?_
  refine r_sipush (v := 900) C dX11_feed_10 (by decide) ?_
  refine r_icmp_le (tgt := 18) C dX11_feed_13 (by decide) (fun c5 => ?_) (fun c5 => ?_)
  · rw [if_pos c5] at hf0
    refine r_aload_n C dX11_feed_18 rfl ?_
    obtain ⟨t6, e7, hf0⟩ := ob hf0
    refine r_getR C fk_X11_23 rfl dX11_feed_19 e7 ?_
    refine r_iload_n C dX11_feed_22 rfl ?_
    obtain ⟨u9, e8, hf0⟩ := ob hf0
    obtain ⟨h10, e11, hf0⟩ := ob hf0
    refine r_cV (ci := 4) (rest := []) (st2 := []) C (s_X4_putBytes e11) mk_X4_putBytes rfl (ck_k e8) (by decide) im_X4_putBytes sl_X4_putBytes lk_X11_155 rfl rfl rfl dX11_feed_23 (Nat.le_of_ble_eq_true rfl) ⟨Nat.le_of_ble_eq_true rfl, Nat.le_of_ble_eq_true rfl⟩ ⟨Nat.le_of_ble_eq_true rfl, Nat.le_of_ble_eq_true rfl⟩ ?_
    refine r_aload_n C dX11_feed_26 rfl ?_
    obtain ⟨t12, e13, hf0⟩ := ob hf0
    refine r_getR C fk_X11_23 rfl dX11_feed_27 e13 ?_
    refine r_iload_n C dX11_feed_30 rfl ?_
    obtain ⟨u15, e14, hf0⟩ := ob hf0
    obtain ⟨h16, e17, hf0⟩ := ob hf0
    refine r_cV (ci := 4) (rest := []) (st2 := []) C (s_X4_putBytes e17) mk_X4_putBytes rfl (ck_k e14) (by decide) im_X4_putBytes sl_X4_putBytes lk_X11_155 rfl rfl rfl dX11_feed_31 (Nat.le_of_ble_eq_true rfl) ⟨Nat.le_of_ble_eq_true rfl, Nat.le_of_ble_eq_true rfl⟩ ⟨Nat.le_of_ble_eq_true rfl, Nat.le_of_ble_eq_true rfl⟩ ?_
    refine r_aload_n C dX11_feed_34 rfl ?_
    obtain ⟨t18, e19, hf0⟩ := ob hf0
    refine r_getR C fk_X11_23 rfl dX11_feed_35 e19 ?_
    refine r_iload_n C dX11_feed_38 rfl ?_
    obtain ⟨u21, e20, hf0⟩ := ob hf0
    obtain ⟨h22, e23, hf0⟩ := ob hf0
    refine r_cV (ci := 4) (rest := []) (st2 := []) C (s_X4_putBytes e23) mk_X4_putBytes rfl (ck_k e20) (by decide) im_X4_putBytes sl_X4_putBytes lk_X11_155 rfl rfl rfl dX11_feed_39 (Nat.le_of_ble_eq_true rfl) ⟨Nat.le_of_ble_eq_true rfl, Nat.le_of_ble_eq_true rfl⟩ ⟨Nat.le_of_ble_eq_true rfl, Nat.le_of_ble_eq_true rfl⟩ ?_
    refine r_aload_n C dX11_feed_42 rfl ?_
    obtain ⟨t24, e25, hf0⟩ := ob hf0
    refine r_getR C fk_X11_23 rfl dX11_feed_43 e25 ?_
    refine r_iload C dX11_feed_46 rfl ?_
    obtain ⟨u27, e26, hf0⟩ := ob hf0
    obtain ⟨h28, e29, hf0⟩ := ob hf0
    refine r_cV (ci := 4) (rest := []) (st2 := []) C (s_X4_putBytes e29) mk_X4_putBytes rfl (ck_k e26) (by decide) im_X4_putBytes sl_X4_putBytes lk_X11_155 rfl rfl rfl dX11_feed_48 (Nat.le_of_ble_eq_true rfl) ⟨Nat.le_of_ble_eq_true rfl, Nat.le_of_ble_eq_true rfl⟩ ⟨Nat.le_of_ble_eq_true rfl, Nat.le_of_ble_eq_true rfl⟩ ?_
    refine r_aload_n C dX11_feed_51 rfl ?_
    obtain ⟨t30, e31, hf0⟩ := ob hf0
    refine r_getR C fk_X11_23 rfl dX11_feed_52 e31 ?_
    refine r_iload C dX11_feed_55 rfl ?_
    obtain ⟨u33, e32, hf0⟩ := ob hf0
    obtain ⟨h34, e35, hf0⟩ := ob hf0
    refine r_cV (ci := 4) (rest := []) (st2 := []) C (s_X4_putBytes e35) mk_X4_putBytes rfl (ck_k e32) (by decide) im_X4_putBytes sl_X4_putBytes lk_X11_155 rfl rfl rfl dX11_feed_57 (Nat.le_of_ble_eq_true rfl) ⟨Nat.le_of_ble_eq_true rfl, Nat.le_of_ble_eq_true rfl⟩ ⟨Nat.le_of_ble_eq_true rfl, Nat.le_of_ble_eq_true rfl⟩ ?_
    refine r_aload_n C dX11_feed_60 rfl ?_
    obtain ⟨t36, e37, hf0⟩ := ob hf0
    refine r_getR C fk_X11_23 rfl dX11_feed_61 e37 ?_
    obtain ⟨t38, e39, hf0⟩ := ob hf0
    refine r_getI C fk_X11_152 rfl dX11_feed_64 e39 ?_
    obtain rfl := so hf0
    exact r_iret C dX11_feed_67
  · rw [if_neg c5] at hf0
    refine r_iconst (v := -1) C dX11_feed_16 (by decide) ?_
    obtain rfl := so hf0
    exact r_iret C dX11_feed_17
def f_X11_isMarked_b2 (h : aH) (v0 : Nat) (v1 : Nat) (v2 : Int32) : Option ((Int32) ⊕ ((Unit) ⊕ (Unit))) := (gI h 11 v0 14).bind fun t1 => if t1 ≤ v2 then some (.inr (.inr ())) else (gR h 11 v0 9).bind fun t2 => (lQ h 25 t2 v2).bind fun t3 => (gR h 5 t3 2).bind fun t4 => if t4 = v1 then some (.inr (.inl ())) else (some (v2 + (1 : Int32))).bind fun t5 => some (.inl t5)
def f_X11_isMarked_l2 (h : aH) (v0 : Nat) (v1 : Nat) (v2 : Int32) : Option ((Unit) ⊕ (Unit)) := whileL wN (fun q : Int32 => f_X11_isMarked_b2 h v0 v1 q) v2
def f_X11_isMarked (h : aH) (v0 : Nat) (v1 : Nat) : Option (Int32) := (f_X11_isMarked_l2 h v0 v1 (0 : Int32)).bind fun e => match e with | .inl _ => some (1 : Int32) | .inr _ => some (0 : Int32)
theorem s_X11_isMarked {h : aH} {v0 : Nat} {v1 : Nat} {out : Int32} (hf0 : f_X11_isMarked h v0 v1 = some out) : EV 0 yX11_isMarked cX11_isMarked 3 (some .boolean) h [.ref v0, .ref v1] (some (.int out)) h 0 0 := by
  refine EV.of (own := RX11) (lv0 := [(0, .ref v0), (1, .ref v1)]) (by decide +kernel) rfl rfl (Nat.le_of_ble_eq_true rfl) ?_
  intro p l e s m args below meth c D cA B Hb C hin
  unfold f_X11_isMarked at hf0
  refine r_iconst (v := 0) C dX11_isMarked_0 (by decide) ?_
  refine r_istore_n (lv' := [(2, .int (0 : Int32)), (0, .ref v0), (1, .ref v1)]) C dX11_isMarked_1 (by decide) rfl rfl ?_
  obtain ⟨y1, hl2, hf0⟩ := ob hf0
  have L2 : ∀ (n : Nat) (t2 : Int32), whileL n (fun q : Int32 => f_X11_isMarked_b2 h v0 v1 q) t2 = some y1 → gW p l e (rmO 0 0 0) s m args below meth c (MQ below (eQ D cA B Hb h (some (.int out))) args s 0 0 (fun q => B ≤ q)) D cA B Hb 3 h 2 [(0, .ref v0), (1, .ref v1), (2, .int t2)] [] 0 0 := by
    intro n
    induction n with
    | zero => intro t2 hz; cases hz
    | succ n ih2 =>
      intro t2 hz
      obtain ⟨x2, hf1, hk2⟩ := wl hz
      replace hf1 : f_X11_isMarked_b2 h v0 v1 t2 = some x2 := hf1
      unfold f_X11_isMarked_b2 at hf1
      refine r_iload_n C dX11_isMarked_2 rfl ?_
      refine r_aload_n C dX11_isMarked_3 rfl ?_
      obtain ⟨t3, e4, hf1⟩ := ob hf1
      refine r_getI C fk_X11_52 rfl dX11_isMarked_4 e4 ?_
      refine r_icmp_ge (tgt := 31) C dX11_isMarked_7 (by decide) (fun c5 => ?_) (fun c5 => ?_)
      · rw [if_pos c5] at hf1
        obtain rfl := so hf1
        obtain rfl := so (show some (.inr () : (Unit) ⊕ (Unit)) = some y1 from hk2)
        dsimp only at hf0
        refine r_iconst (v := 0) C dX11_isMarked_31 (by decide) ?_
        obtain rfl := so hf0
        exact r_zret C dX11_isMarked_32 (Or.inl rfl)
      · rw [if_neg c5] at hf1
        refine r_aload_n C dX11_isMarked_10 rfl ?_
        obtain ⟨t6, e7, hf1⟩ := ob hf1
        refine r_getR C fk_X11_35 rfl dX11_isMarked_11 e7 ?_
        refine r_iload_n C dX11_isMarked_14 rfl ?_
        obtain ⟨t8, e9, hf1⟩ := ob hf1
        refine r_ldN25 C dX11_isMarked_15 e9 ?_
        obtain ⟨t10, e11, hf1⟩ := ob hf1
        refine r_getR C fk_X11_267 rfl dX11_isMarked_16 e11 ?_
        refine r_aload_n C dX11_isMarked_19 rfl ?_
        refine r_acmp_ne (tgt := 25) C dX11_isMarked_20 (by decide) (fun c12 => ?_) (fun c12 => ?_)
        · rw [if_neg c12] at hf1
          obtain ⟨t13, e14, hf1⟩ := ob hf1
          refine r_iinc (lv' := [(2, .int t13), (0, .ref v0), (1, .ref v1)]) C dX11_isMarked_25 rfl e14 (by decide) rfl ?_
          refine r_goto (tgt := 2) C dX11_isMarked_28 (by decide) ?_
          obtain rfl := so hf1
          refine r_subk [1, 2, 0] (lv' := [(0, .ref v0), (1, .ref v1), (2, .int t13)]) rfl ?_
          exact ih2 t13 hk2
        · rw [if_pos c12] at hf1
          obtain rfl := so hf1
          obtain rfl := so (show some (.inl () : (Unit) ⊕ (Unit)) = some y1 from hk2)
          dsimp only at hf0
          refine r_iconst (v := 1) C dX11_isMarked_23 (by decide) ?_
          obtain rfl := so hf0
          exact r_zret C dX11_isMarked_24 (Or.inr rfl)
  refine r_subk [1, 2, 0] (lv' := [(0, .ref v0), (1, .ref v1), (2, .int (0 : Int32))]) rfl ?_
  exact L2 wN (0 : Int32) hl2
def f_X11_freeCase_j57 (h : aH) (v0 : Nat) (v1 : Int32) : Option ((Int32) ⊕ ((Int32) ⊕ (Nat) ⊕ (Unit))) := (some (v1 + (1 : Int32))).bind fun t1 => some (.inl t1)
def f_X11_freeCase_b2 (h : aH) (v0 : Nat) (v1 : Int32) : Option ((Int32) ⊕ ((Int32) ⊕ (Nat) ⊕ (Unit))) := (gR h 11 v0 4).bind fun t2 => (aN h t2).bind fun t3 => if t3 ≤ v1 then some (.inr (.inr (.inr ()))) else (gR h 11 v0 4).bind fun t4 => (lR h 24 t4 v1).bind fun t5 => match t5 with | none => some (.inr (.inl v1)) | some t6 => (gR h 11 v0 11).bind fun t7 => if t6 = t7 then f_X11_freeCase_j57 h v0 v1 else (ck h 11 v0).bind fun _ => (f_X11_isMarked h v0 t6).bind fun t8 => if t8 = 0 then some (.inr (.inr (.inl t6))) else f_X11_freeCase_j57 h v0 v1
def f_X11_freeCase_l2 (h : aH) (v0 : Nat) (v1 : Int32) : Option ((Int32) ⊕ (Nat) ⊕ (Unit)) := whileL wN (fun q : Int32 => f_X11_freeCase_b2 h v0 q) v1
def f_X11_freeCase (h : aH) (v0 : Nat) : Option (Nat × aH) := (f_X11_freeCase_l2 h v0 (0 : Int32)).bind fun e => match e with | .inl t9 => bd2 (nwO h 1 19) fun t10 h11 => (f_X1_init h11 t10).bind fun h12 => (gR h12 11 v0 4).bind fun t13 => (sR h12 24 t13 t9 1 t10).bind fun h14 => some (t10, h14) | .inr (.inl t15) => some (t15, h) | .inr (.inr _) => bd2 (nwO h 1 19) fun t16 h17 => (f_X1_init h17 t16).bind fun h18 => some (t16, h18)
theorem s_X11_freeCase {h : aH} {v0 : Nat} {out : Nat × aH} (hf0 : f_X11_freeCase h v0 = some out) : EV 3 yX11_freeCase cX11_freeCase 3 (some (.object "AskingCourt$Case")) h [.ref v0] (some (.ref out.1)) out.2 16 13048 := by
  refine EV.of (own := RX11) (lv0 := [(0, .ref v0)]) (by decide +kernel) rfl rfl (Nat.le_of_ble_eq_true rfl) ?_
  intro p l e s m args below meth c D cA B Hb C hin
  unfold f_X11_freeCase at hf0
  refine r_iconst (v := 0) C dX11_freeCase_0 (by decide) ?_
  refine r_istore_n (lv' := [(1, .int (0 : Int32)), (0, .ref v0)]) C dX11_freeCase_1 (by decide) rfl rfl ?_
  obtain ⟨y1, hl2, hf0⟩ := ob hf0
  have L2 : ∀ (n : Nat) (t2 : Int32), whileL n (fun q : Int32 => f_X11_freeCase_b2 h v0 q) t2 = some y1 → gW p l e (rmO 3 16 13048) s m args below meth c (MQ below (eQ D cA B Hb out.2 (some (.ref out.1))) args s 16 13048 (fun q => B ≤ q)) D cA B Hb 3 h 2 [(0, .ref v0), (1, .int t2)] [] 0 0 := by
    intro n
    induction n with
    | zero => intro t2 hz; cases hz
    | succ n ih2 =>
      intro t2 hz
      obtain ⟨x2, hf1, hk2⟩ := wl hz
      replace hf1 : f_X11_freeCase_b2 h v0 t2 = some x2 := hf1
      unfold f_X11_freeCase_b2 at hf1
      have J57 : ∀ (t3 : Int32), f_X11_freeCase_j57 h v0 t3 = some x2 → gW p l e (rmO 3 16 13048) s m args below meth c (MQ below (eQ D cA B Hb out.2 (some (.ref out.1))) args s 16 13048 (fun q => B ≤ q)) D cA B Hb 3 h 57 [(0, .ref v0), (1, .int t3)] [] 0 0 := by
        intro t3 hf1
        unfold f_X11_freeCase_j57 at hf1
        obtain ⟨t4, e5, hf1⟩ := ob hf1
        refine r_iinc (lv' := [(1, .int t4), (0, .ref v0)]) C dX11_freeCase_57 rfl e5 (by decide) rfl ?_
        refine r_goto (tgt := 2) C dX11_freeCase_60 (by decide) ?_
        obtain rfl := so hf1
        refine r_subk [1, 0] (lv' := [(0, .ref v0), (1, .int t4)]) rfl ?_
        exact ih2 t4 hk2
      refine r_iload_n C dX11_freeCase_2 rfl ?_
      refine r_aload_n C dX11_freeCase_3 rfl ?_
      obtain ⟨t6, e7, hf1⟩ := ob hf1
      refine r_getR C fk_X11_29 rfl dX11_freeCase_4 e7 ?_
      obtain ⟨t8, e9, hf1⟩ := ob hf1
      refine r_alen C dX11_freeCase_7 e9 ?_
      refine r_icmp_ge (tgt := 63) C dX11_freeCase_8 (by decide) (fun c10 => ?_) (fun c10 => ?_)
      · rw [if_pos c10] at hf1
        obtain rfl := so hf1
        obtain rfl := so (show some (.inr (.inr ()) : (Int32) ⊕ (Nat) ⊕ (Unit)) = some y1 from hk2)
        dsimp only at hf0
        obtain ⟨t11, h12, e13, hf0⟩ := ob2 hf0
        refine r_newE C nk_X11_27 dX11_freeCase_63 ⟨Nat.le_of_ble_eq_true rfl, Nat.le_of_ble_eq_true rfl⟩ e13 ?_
        refine r_dup C dX11_freeCase_66 rfl ?_
        obtain ⟨h14, e15, hf0⟩ := ob hf0
        refine r_callI (rest := [.ref t11]) C (s_X1_init e15) mk_X1_init rfl im_X1_init lk_X11_73 rfl rfl dX11_freeCase_67 (Nat.le_of_ble_eq_true rfl) ⟨Nat.le_of_ble_eq_true rfl, Nat.le_of_ble_eq_true rfl⟩ ⟨Nat.le_of_ble_eq_true rfl, Nat.le_of_ble_eq_true rfl⟩ ?_
        obtain rfl := so hf0
        exact r_aret C (Or.inl ⟨_, rfl⟩) dX11_freeCase_70
      · rw [if_neg c10] at hf1
        refine r_aload_n C dX11_freeCase_11 rfl ?_
        obtain ⟨t16, e17, hf1⟩ := ob hf1
        refine r_getR C fk_X11_29 rfl dX11_freeCase_12 e17 ?_
        refine r_iload_n C dX11_freeCase_15 rfl ?_
        obtain ⟨t18, e19, hf1⟩ := ob hf1
        rcases t18 with _ | t20
        · dsimp only at hf1
          refine r_ldQ0 C dX11_freeCase_16 e19 ?_
          refine r_nstore_n (lv' := [(2, .null), (0, .ref v0), (1, .int t2)]) C dX11_freeCase_17 (by decide) rfl ?_
          refine r_nload_n C dX11_freeCase_18 rfl ?_
          refine r_ifnnN C dX11_freeCase_19 ?_
          obtain rfl := so hf1
          obtain rfl := so (show some (.inl t2 : (Int32) ⊕ (Nat) ⊕ (Unit)) = some y1 from hk2)
          dsimp only at hf0
          obtain ⟨t21, h22, e23, hf0⟩ := ob2 hf0
          refine r_newE C nk_X11_27 dX11_freeCase_22 ⟨Nat.le_of_ble_eq_true rfl, Nat.le_of_ble_eq_true rfl⟩ e23 ?_
          refine r_dup C dX11_freeCase_25 rfl ?_
          obtain ⟨h24, e25, hf0⟩ := ob hf0
          refine r_callI (rest := [.ref t21]) C (s_X1_init e25) mk_X1_init rfl im_X1_init lk_X11_73 rfl rfl dX11_freeCase_26 (Nat.le_of_ble_eq_true rfl) ⟨Nat.le_of_ble_eq_true rfl, Nat.le_of_ble_eq_true rfl⟩ ⟨Nat.le_of_ble_eq_true rfl, Nat.le_of_ble_eq_true rfl⟩ ?_
          refine r_astore_n (lv' := [(2, .ref t21), (0, .ref v0), (1, .int t2)]) C dX11_freeCase_29 (by decide) rfl rfl ?_
          refine r_aload_n C dX11_freeCase_30 rfl ?_
          obtain ⟨t26, e27, hf0⟩ := ob hf0
          refine r_getR C fk_X11_29 rfl dX11_freeCase_31 e27 ?_
          refine r_iload_n C dX11_freeCase_34 rfl ?_
          refine r_aload_n C dX11_freeCase_35 rfl ?_
          obtain ⟨h28, e29, hf0⟩ := ob hf0
          refine r_stQ24 C dX11_freeCase_36 e29 ?_
          refine r_aload_n C dX11_freeCase_37 rfl ?_
          obtain rfl := so hf0
          exact r_aret C (Or.inl ⟨_, rfl⟩) dX11_freeCase_38
        · dsimp only at hf1
          refine r_ldQ1 C dX11_freeCase_16 e19 ?_
          refine r_astore_n (lv' := [(2, .ref t20), (0, .ref v0), (1, .int t2)]) C dX11_freeCase_17 (by decide) rfl rfl ?_
          refine r_aload_n C dX11_freeCase_18 rfl ?_
          refine r_ifnn (tgt := 39) C dX11_freeCase_19 (by decide) ?_
          refine r_aload_n C dX11_freeCase_39 rfl ?_
          refine r_aload_n C dX11_freeCase_40 rfl ?_
          obtain ⟨t30, e31, hf1⟩ := ob hf1
          refine r_getR C fk_X11_74 rfl dX11_freeCase_41 e31 ?_
          refine r_acmp_eq (tgt := 57) C dX11_freeCase_44 (by decide) (fun c32 => ?_) (fun c32 => ?_)
          · rw [if_pos c32] at hf1
            refine r_subk [1, 2] (lv' := [(0, .ref v0), (1, .int t2)]) rfl ?_
            exact J57 t2 hf1
          · rw [if_neg c32] at hf1
            refine r_aload_n C dX11_freeCase_47 rfl ?_
            refine r_aload_n C dX11_freeCase_48 rfl ?_
            obtain ⟨u34, e33, hf1⟩ := ob hf1
            obtain ⟨t35, e36, hf1⟩ := ob hf1
            refine r_cV (ci := 11) (rest := []) (st2 := [.int t35]) C (s_X11_isMarked e36) mk_X11_isMarked rfl (ck_k e33) (by decide) im_X11_isMarked sl_X11_isMarked lk_X11_264 rfl rfl rfl dX11_freeCase_49 (Nat.le_of_ble_eq_true rfl) ⟨Nat.le_of_ble_eq_true rfl, Nat.le_of_ble_eq_true rfl⟩ ⟨Nat.le_of_ble_eq_true rfl, Nat.le_of_ble_eq_true rfl⟩ ?_
            refine r_ifne (tgt := 57) C dX11_freeCase_52 (by decide) (fun c37 => ?_) (fun c37 => ?_)
            · rw [if_neg c37] at hf1
              refine r_subk [1, 2] (lv' := [(0, .ref v0), (1, .int t2)]) rfl ?_
              exact J57 t2 hf1
            · rw [if_pos c37] at hf1
              obtain rfl := so hf1
              obtain rfl := so (show some (.inr (.inl t20) : (Int32) ⊕ (Nat) ⊕ (Unit)) = some y1 from hk2)
              dsimp only at hf0
              refine r_aload_n C dX11_freeCase_55 rfl ?_
              refine r_wid (cells' := 16) (slots' := 13048) (Nat.le_of_ble_eq_true rfl) (Nat.le_of_ble_eq_true rfl) ?_
              obtain rfl := so hf0
              exact r_aret C (Or.inl ⟨_, rfl⟩) dX11_freeCase_56
  refine r_subk [1, 0] (lv' := [(0, .ref v0), (1, .int (0 : Int32))]) rfl ?_
  exact L2 wN (0 : Int32) hl2
def f_X11_give (h : aH) (v0 : Nat) (v1 : Int32) : Option (Int32 × aH) := (pI h 11 v0 17 (0 : Int32)).bind fun h1 => some (v1, h1)
theorem s_X11_give {h : aH} {v0 : Nat} {v1 : Int32} {out : Int32 × aH} (hf0 : f_X11_give h v0 v1 = some out) : EV 0 yX11_give cX11_give 2 (some .int) h [.ref v0, .int v1] (some (.int out.1)) out.2 0 0 := by
  refine EV.of (own := RX11) (lv0 := [(0, .ref v0), (1, .int v1)]) (by decide +kernel) rfl rfl (Nat.le_of_ble_eq_true rfl) ?_
  intro p l e s m args below meth c D cA B Hb C hin
  unfold f_X11_give at hf0
  refine r_aload_n C dX11_give_0 rfl ?_
  refine r_iconst (v := 0) C dX11_give_1 (by decide) ?_
  obtain ⟨h1, e2, hf0⟩ := ob hf0
  refine r_putI C fk_X11_63 dX11_give_2 e2 ?_
  refine r_iload_n C dX11_give_5 rfl ?_
  obtain rfl := so hf0
  exact r_iret C dX11_give_6
def f_X11_court (h : aH) (v0 : Nat) (v1 : Int32) : Option (Int32 × aH) := (gR h 11 v0 3).bind fun t1 => (gI h 4 t1 6).bind fun t2 => (f_X11_below h v1 (t2 + (1 : Int32))).bind fun t3 => if t3 = 0 then (ck h 11 v0).bind fun _ => bd2 (f_X11_refuse h v0 (1 : Int32)) fun t21 h22 => some (t21, h22) else (ck h 11 v0).bind fun _ => bd2 (f_X11_freeCase h v0) fun t4 h5 => (gR h5 11 v0 3).bind fun t6 => (ck h5 4 t6).bind fun _ => (f_X4_open h5 t6 v1).bind fun h7 => (gR h7 11 v0 5).bind fun t8 => (ck h7 2 t8).bind fun _ => bd2 (f_X2_readCase h7 t8 t4) fun t9 h10 => if t9 = 0 then (ck h10 11 v0).bind fun _ => bd2 (f_X11_refuse h10 v0 (9 : Int32)) fun t19 h20 => some (t19, h20) else (pR h10 11 v0 11 t4).bind fun h11 => (gR h11 11 v0 12).bind fun t12 => (pZ h11 8 t12 7 (0 : Int32)).bind fun h13 => (gR h13 11 v0 6).bind fun t14 => (ck h13 3 t14).bind fun _ => (f_X3_begin h13 t14 t4).bind fun h15 => (gI h15 1 t4 15).bind fun t16 => (ck h15 11 v0).bind fun _ => bd2 (f_X11_give h15 v0 t16) fun t17 h18 => some (t17, h18)
theorem s_X11_court {h : aH} {v0 : Nat} {v1 : Int32} {out : Int32 × aH} (hf0 : f_X11_court h v0 v1 = some out) : EV 30 yX11_court cX11_court 3 (some .int) h [.ref v0, .int v1] (some (.int out.1)) out.2 16 13048 := by
  refine EV.of (own := RX11) (lv0 := [(0, .ref v0), (1, .int v1)]) (by decide +kernel) rfl rfl (Nat.le_of_ble_eq_true rfl) ?_
  intro p l e s m args below meth c D cA B Hb C hin
  unfold f_X11_court at hf0
  refine r_iload_n C dX11_court_0 rfl ?_
  refine r_aload_n C dX11_court_1 rfl ?_
  obtain ⟨t1, e2, hf0⟩ := ob hf0
  refine r_getR C fk_X11_23 rfl dX11_court_2 e2 ?_
  obtain ⟨t3, e4, hf0⟩ := ob hf0
  refine r_getI C fk_X11_152 rfl dX11_court_5 e4 ?_
  refine r_iconst (v := 1) C dX11_court_8 (by decide) ?_
  refine r_iadd C dX11_court_9 ?_
  obtain ⟨t5, e6, hf0⟩ := ob hf0
  refine r_cS (rest := []) (st2 := [.int t5]) C (s_X11_below e6) mk_X11_below sm_X11_below lk_X11_119 rfl rfl rfl dX11_court_10 (Nat.le_of_ble_eq_true rfl) ⟨Nat.le_of_ble_eq_true rfl, Nat.le_of_ble_eq_true rfl⟩ ⟨Nat.le_of_ble_eq_true rfl, Nat.le_of_ble_eq_true rfl⟩ ?_
  refine r_ifne (tgt := 22) C dX11_court_13 (by decide) (fun c7 => ?_) (fun c7 => ?_)
  · rw [if_neg c7] at hf0
    refine r_aload_n C dX11_court_22 rfl ?_
    obtain ⟨u9, e8, hf0⟩ := ob hf0
    obtain ⟨t10, h11, e12, hf0⟩ := ob2 hf0
    refine r_aV (ci := 11) (rest := []) (st2 := [.ref t10]) C (s_X11_freeCase e12) mk_X11_freeCase rfl (ck_k e8) (by decide) im_X11_freeCase sl_X11_freeCase lk_X11_159 rfl rfl rfl dX11_court_23 (Nat.le_of_ble_eq_true rfl) ⟨Nat.le_of_ble_eq_true rfl, Nat.le_of_ble_eq_true rfl⟩ ⟨Nat.le_of_ble_eq_true rfl, Nat.le_of_ble_eq_true rfl⟩ ?_
    refine r_astore_n (lv' := [(2, .ref t10), (0, .ref v0), (1, .int v1)]) C dX11_court_26 (by decide) rfl rfl ?_
    refine r_aload_n C dX11_court_27 rfl ?_
    obtain ⟨t13, e14, hf0⟩ := ob hf0
    refine r_getR C fk_X11_23 rfl dX11_court_28 e14 ?_
    refine r_iload_n C dX11_court_31 rfl ?_
    obtain ⟨u16, e15, hf0⟩ := ob hf0
    obtain ⟨h17, e18, hf0⟩ := ob hf0
    refine r_cV (ci := 4) (rest := []) (st2 := []) C (s_X4_open e18) mk_X4_open rfl (ck_k e15) (by decide) im_X4_open sl_X4_open lk_X11_163 rfl rfl rfl dX11_court_32 (Nat.le_of_ble_eq_true rfl) ⟨Nat.le_of_ble_eq_true rfl, Nat.le_of_ble_eq_true rfl⟩ ⟨Nat.le_of_ble_eq_true rfl, Nat.le_of_ble_eq_true rfl⟩ ?_
    refine r_aload_n C dX11_court_35 rfl ?_
    obtain ⟨t19, e20, hf0⟩ := ob hf0
    refine r_getR C fk_X11_83 rfl dX11_court_36 e20 ?_
    refine r_aload_n C dX11_court_39 rfl ?_
    obtain ⟨u22, e21, hf0⟩ := ob hf0
    obtain ⟨t23, h24, e25, hf0⟩ := ob2 hf0
    refine r_cV (ci := 2) (rest := []) (st2 := [.int t23]) C (s_X2_readCase e25) mk_X2_readCase rfl (ck_k e21) (by decide) im_X2_readCase sl_X2_readCase lk_X11_166 rfl rfl rfl dX11_court_40 (Nat.le_of_ble_eq_true rfl) ⟨Nat.le_of_ble_eq_true rfl, Nat.le_of_ble_eq_true rfl⟩ ⟨Nat.le_of_ble_eq_true rfl, Nat.le_of_ble_eq_true rfl⟩ ?_
    refine r_ifne (tgt := 53) C dX11_court_43 (by decide) (fun c26 => ?_) (fun c26 => ?_)
    · rw [if_neg c26] at hf0
      refine r_aload_n C dX11_court_53 rfl ?_
      refine r_aload_n C dX11_court_54 rfl ?_
      obtain ⟨h27, e28, hf0⟩ := ob hf0
      refine r_putR C fk_X11_74 (Or.inl ⟨_, rfl⟩) dX11_court_55 e28 ?_
      refine r_aload_n C dX11_court_58 rfl ?_
      obtain ⟨t29, e30, hf0⟩ := ob hf0
      refine r_getR C fk_X11_45 rfl dX11_court_59 e30 ?_
      refine r_iconst (v := 0) C dX11_court_62 (by decide) ?_
      obtain ⟨h31, e32, hf0⟩ := ob hf0
      refine r_putZ C fk_X11_170 dX11_court_63 e32 ?_
      refine r_aload_n C dX11_court_66 rfl ?_
      obtain ⟨t33, e34, hf0⟩ := ob hf0
      refine r_getR C fk_X11_92 rfl dX11_court_67 e34 ?_
      refine r_aload_n C dX11_court_70 rfl ?_
      obtain ⟨u36, e35, hf0⟩ := ob hf0
      obtain ⟨h37, e38, hf0⟩ := ob hf0
      refine r_cV (ci := 3) (rest := []) (st2 := []) C (s_X3_begin e38) mk_X3_begin rfl (ck_k e35) (by decide) im_X3_begin sl_X3_begin lk_X11_173 rfl rfl rfl dX11_court_71 (Nat.le_of_ble_eq_true rfl) ⟨Nat.le_of_ble_eq_true rfl, Nat.le_of_ble_eq_true rfl⟩ ⟨Nat.le_of_ble_eq_true rfl, Nat.le_of_ble_eq_true rfl⟩ ?_
      refine r_aload_n C dX11_court_74 rfl ?_
      refine r_aload_n C dX11_court_75 rfl ?_
      obtain ⟨t39, e40, hf0⟩ := ob hf0
      refine r_getI C fk_X11_176 rfl dX11_court_76 e40 ?_
      obtain ⟨u42, e41, hf0⟩ := ob hf0
      obtain ⟨t43, h44, e45, hf0⟩ := ob2 hf0
      refine r_cV (ci := 11) (rest := []) (st2 := [.int t43]) C (s_X11_give e45) mk_X11_give rfl (ck_k e41) (by decide) im_X11_give sl_X11_give lk_X11_179 rfl rfl rfl dX11_court_79 (Nat.le_of_ble_eq_true rfl) ⟨Nat.le_of_ble_eq_true rfl, Nat.le_of_ble_eq_true rfl⟩ ⟨Nat.le_of_ble_eq_true rfl, Nat.le_of_ble_eq_true rfl⟩ ?_
      obtain rfl := so hf0
      exact r_iret C dX11_court_82
    · rw [if_pos c26] at hf0
      refine r_aload_n C dX11_court_46 rfl ?_
      refine r_bipush (v := 9) C dX11_court_47 (by decide) ?_
      obtain ⟨u47, e46, hf0⟩ := ob hf0
      obtain ⟨t48, h49, e50, hf0⟩ := ob2 hf0
      refine r_cV (ci := 11) (rest := []) (st2 := [.int t48]) C (s_X11_refuse e50) mk_X11_refuse rfl (ck_k e46) (by decide) im_X11_refuse sl_X11_refuse lk_X11_142 rfl rfl rfl dX11_court_49 (Nat.le_of_ble_eq_true rfl) ⟨Nat.le_of_ble_eq_true rfl, Nat.le_of_ble_eq_true rfl⟩ ⟨Nat.le_of_ble_eq_true rfl, Nat.le_of_ble_eq_true rfl⟩ ?_
      obtain rfl := so hf0
      exact r_iret C dX11_court_52
  · rw [if_pos c7] at hf0
    refine r_aload_n C dX11_court_16 rfl ?_
    refine r_iconst (v := 1) C dX11_court_17 (by decide) ?_
    obtain ⟨u52, e51, hf0⟩ := ob hf0
    obtain ⟨t53, h54, e55, hf0⟩ := ob2 hf0
    refine r_cV (ci := 11) (rest := []) (st2 := [.int t53]) C (s_X11_refuse e55) mk_X11_refuse rfl (ck_k e51) (by decide) im_X11_refuse sl_X11_refuse lk_X11_142 rfl rfl rfl dX11_court_18 (Nat.le_of_ble_eq_true rfl) ⟨Nat.le_of_ble_eq_true rfl, Nat.le_of_ble_eq_true rfl⟩ ⟨Nat.le_of_ble_eq_true rfl, Nat.le_of_ble_eq_true rfl⟩ ?_
    refine r_wid (cells' := 16) (slots' := 13048) (Nat.le_of_ble_eq_true rfl) (Nat.le_of_ble_eq_true rfl) ?_
    obtain rfl := so hf0
    exact r_iret C dX11_court_21
def f_X11_plan_j23 (h : aH) (v0 : Nat) : Option (Int32 × aH) := (ck h 11 v0).bind fun _ => bd2 (f_X11_refuse h v0 (1 : Int32)) fun t1 h2 => some (t1, h2)
def f_X11_plan (h : aH) (v0 : Nat) (v1 : Int32) : Option (Int32 × aH) := (gR h 11 v0 3).bind fun t3 => (gI h 4 t3 6).bind fun t4 => (f_X11_below h v1 (t4 + (1 : Int32))).bind fun t5 => if t5 = 0 then f_X11_plan_j23 h v0 else if v1 ≤ (300 : Int32) then (gR h 11 v0 3).bind fun t6 => (ck h 4 t6).bind fun _ => (f_X4_open h t6 v1).bind fun h7 => (gR h7 11 v0 13).bind fun t8 => (gR h7 11 v0 3).bind fun t9 => (gR h7 11 v0 11).bind fun t10 => (gR h7 1 t10 0).bind fun t11 => (ck h7 8 t8).bind fun _ => bd2 (f_X8_readSteps h7 t8 t9 t11) fun t12 h13 => if t12 = 0 then (ck h13 11 v0).bind fun _ => bd2 (f_X11_refuse h13 v0 (9 : Int32)) fun t22 h23 => some (t22, h23) else (gR h13 11 v0 12).bind fun t14 => (gR h13 11 v0 13).bind fun t15 => (pR h13 11 v0 12 t15).bind fun h16 => (pR h16 11 v0 13 t14).bind fun h17 => (gR h17 11 v0 12).bind fun t18 => (gI h17 8 t18 6).bind fun t19 => (ck h17 11 v0).bind fun _ => bd2 (f_X11_give h17 v0 t19) fun t20 h21 => some (t20, h21) else f_X11_plan_j23 h v0
theorem s_X11_plan {h : aH} {v0 : Nat} {v1 : Int32} {out : Int32 × aH} (hf0 : f_X11_plan h v0 v1 = some out) : EV 6 yX11_plan cX11_plan 3 (some .int) h [.ref v0, .int v1] (some (.int out.1)) out.2 0 0 := by
  refine EV.of (own := RX11) (lv0 := [(0, .ref v0), (1, .int v1)]) (by decide +kernel) rfl rfl (Nat.le_of_ble_eq_true rfl) ?_
  intro p l e s m args below meth c D cA B Hb C hin
  unfold f_X11_plan at hf0
  have J23 : ∀ (h1 : aH) (t2 : Nat), f_X11_plan_j23 h1 t2 = some out → gW p l e (rmO 6 0 0) s m args below meth c (MQ below (eQ D cA B Hb out.2 (some (.int out.1))) args s 0 0 (fun q => B ≤ q)) D cA B Hb 3 h1 23 [(0, .ref t2)] [] 0 0 := by
    intro h1 t2 hf0
    unfold f_X11_plan_j23 at hf0
    refine r_aload_n C dX11_plan_23 rfl ?_
    refine r_iconst (v := 1) C dX11_plan_24 (by decide) ?_
    obtain ⟨u4, e3, hf0⟩ := ob hf0
    obtain ⟨t5, h6, e7, hf0⟩ := ob2 hf0
    refine r_cV (ci := 11) (rest := []) (st2 := [.int t5]) C (s_X11_refuse e7) mk_X11_refuse rfl (ck_k e3) (by decide) im_X11_refuse sl_X11_refuse lk_X11_142 rfl rfl rfl dX11_plan_25 (Nat.le_of_ble_eq_true rfl) ⟨Nat.le_of_ble_eq_true rfl, Nat.le_of_ble_eq_true rfl⟩ ⟨Nat.le_of_ble_eq_true rfl, Nat.le_of_ble_eq_true rfl⟩ ?_
    obtain rfl := so hf0
    exact r_iret C dX11_plan_28
  refine r_iload_n C dX11_plan_0 rfl ?_
  refine r_aload_n C dX11_plan_1 rfl ?_
  obtain ⟨t8, e9, hf0⟩ := ob hf0
  refine r_getR C fk_X11_23 rfl dX11_plan_2 e9 ?_
  obtain ⟨t10, e11, hf0⟩ := ob hf0
  refine r_getI C fk_X11_152 rfl dX11_plan_5 e11 ?_
  refine r_iconst (v := 1) C dX11_plan_8 (by decide) ?_
  refine r_iadd C dX11_plan_9 ?_
  obtain ⟨t12, e13, hf0⟩ := ob hf0
  refine r_cS (rest := []) (st2 := [.int t12]) C (s_X11_below e13) mk_X11_below sm_X11_below lk_X11_119 rfl rfl rfl dX11_plan_10 (Nat.le_of_ble_eq_true rfl) ⟨Nat.le_of_ble_eq_true rfl, Nat.le_of_ble_eq_true rfl⟩ ⟨Nat.le_of_ble_eq_true rfl, Nat.le_of_ble_eq_true rfl⟩ ?_
  refine r_ifeq (tgt := 23) C dX11_plan_13 (by decide) (fun c14 => ?_) (fun c14 => ?_)
  · rw [if_pos c14] at hf0
    refine r_subk [0] (lv' := [(0, .ref v0)]) rfl ?_
    exact J23 h v0 hf0
  · rw [if_neg c14] at hf0
    refine r_iload_n C dX11_plan_16 rfl ?_
    refine r_sipush (v := 300) C dX11_plan_17 (by decide) ?_
    refine r_icmp_le (tgt := 29) C dX11_plan_20 (by decide) (fun c15 => ?_) (fun c15 => ?_)
    · rw [if_pos c15] at hf0
      refine r_aload_n C dX11_plan_29 rfl ?_
      obtain ⟨t16, e17, hf0⟩ := ob hf0
      refine r_getR C fk_X11_23 rfl dX11_plan_30 e17 ?_
      refine r_iload_n C dX11_plan_33 rfl ?_
      obtain ⟨u19, e18, hf0⟩ := ob hf0
      obtain ⟨h20, e21, hf0⟩ := ob hf0
      refine r_cV (ci := 4) (rest := []) (st2 := []) C (s_X4_open e21) mk_X4_open rfl (ck_k e18) (by decide) im_X4_open sl_X4_open lk_X11_163 rfl rfl rfl dX11_plan_34 (Nat.le_of_ble_eq_true rfl) ⟨Nat.le_of_ble_eq_true rfl, Nat.le_of_ble_eq_true rfl⟩ ⟨Nat.le_of_ble_eq_true rfl, Nat.le_of_ble_eq_true rfl⟩ ?_
      refine r_aload_n C dX11_plan_37 rfl ?_
      obtain ⟨t22, e23, hf0⟩ := ob hf0
      refine r_getR C fk_X11_49 rfl dX11_plan_38 e23 ?_
      refine r_aload_n C dX11_plan_41 rfl ?_
      obtain ⟨t24, e25, hf0⟩ := ob hf0
      refine r_getR C fk_X11_23 rfl dX11_plan_42 e25 ?_
      refine r_aload_n C dX11_plan_45 rfl ?_
      obtain ⟨t26, e27, hf0⟩ := ob hf0
      refine r_getR C fk_X11_74 rfl dX11_plan_46 e27 ?_
      obtain ⟨t28, e29, hf0⟩ := ob hf0
      refine r_getR C fk_X11_182 rfl dX11_plan_49 e29 ?_
      obtain ⟨u31, e30, hf0⟩ := ob hf0
      obtain ⟨t32, h33, e34, hf0⟩ := ob2 hf0
      refine r_cV (ci := 8) (rest := []) (st2 := [.int t32]) C (s_X8_readSteps e34) mk_X8_readSteps rfl (ck_k e30) (by decide) im_X8_readSteps sl_X8_readSteps lk_X11_186 rfl rfl rfl dX11_plan_52 (Nat.le_of_ble_eq_true rfl) ⟨Nat.le_of_ble_eq_true rfl, Nat.le_of_ble_eq_true rfl⟩ ⟨Nat.le_of_ble_eq_true rfl, Nat.le_of_ble_eq_true rfl⟩ ?_
      refine r_ifne (tgt := 65) C dX11_plan_55 (by decide) (fun c35 => ?_) (fun c35 => ?_)
      · rw [if_neg c35] at hf0
        refine r_aload_n C dX11_plan_65 rfl ?_
        obtain ⟨t36, e37, hf0⟩ := ob hf0
        refine r_getR C fk_X11_45 rfl dX11_plan_66 e37 ?_
        refine r_astore_n (lv' := [(2, .ref t36), (0, .ref v0), (1, .int v1)]) C dX11_plan_69 (by decide) rfl rfl ?_
        refine r_aload_n C dX11_plan_70 rfl ?_
        refine r_aload_n C dX11_plan_71 rfl ?_
        obtain ⟨t38, e39, hf0⟩ := ob hf0
        refine r_getR C fk_X11_49 rfl dX11_plan_72 e39 ?_
        obtain ⟨h40, e41, hf0⟩ := ob hf0
        refine r_putR C fk_X11_45 (Or.inl ⟨_, rfl⟩) dX11_plan_75 e41 ?_
        refine r_aload_n C dX11_plan_78 rfl ?_
        refine r_aload_n C dX11_plan_79 rfl ?_
        obtain ⟨h42, e43, hf0⟩ := ob hf0
        refine r_putR C fk_X11_49 (Or.inl ⟨_, rfl⟩) dX11_plan_80 e43 ?_
        refine r_aload_n C dX11_plan_83 rfl ?_
        refine r_aload_n C dX11_plan_84 rfl ?_
        obtain ⟨t44, e45, hf0⟩ := ob hf0
        refine r_getR C fk_X11_45 rfl dX11_plan_85 e45 ?_
        obtain ⟨t46, e47, hf0⟩ := ob hf0
        refine r_getI C fk_X11_190 rfl dX11_plan_88 e47 ?_
        obtain ⟨u49, e48, hf0⟩ := ob hf0
        obtain ⟨t50, h51, e52, hf0⟩ := ob2 hf0
        refine r_cV (ci := 11) (rest := []) (st2 := [.int t50]) C (s_X11_give e52) mk_X11_give rfl (ck_k e48) (by decide) im_X11_give sl_X11_give lk_X11_179 rfl rfl rfl dX11_plan_91 (Nat.le_of_ble_eq_true rfl) ⟨Nat.le_of_ble_eq_true rfl, Nat.le_of_ble_eq_true rfl⟩ ⟨Nat.le_of_ble_eq_true rfl, Nat.le_of_ble_eq_true rfl⟩ ?_
        obtain rfl := so hf0
        exact r_iret C dX11_plan_94
      · rw [if_pos c35] at hf0
        refine r_aload_n C dX11_plan_58 rfl ?_
        refine r_bipush (v := 9) C dX11_plan_59 (by decide) ?_
        obtain ⟨u54, e53, hf0⟩ := ob hf0
        obtain ⟨t55, h56, e57, hf0⟩ := ob2 hf0
        refine r_cV (ci := 11) (rest := []) (st2 := [.int t55]) C (s_X11_refuse e57) mk_X11_refuse rfl (ck_k e53) (by decide) im_X11_refuse sl_X11_refuse lk_X11_142 rfl rfl rfl dX11_plan_61 (Nat.le_of_ble_eq_true rfl) ⟨Nat.le_of_ble_eq_true rfl, Nat.le_of_ble_eq_true rfl⟩ ⟨Nat.le_of_ble_eq_true rfl, Nat.le_of_ble_eq_true rfl⟩ ?_
        obtain rfl := so hf0
        exact r_iret C dX11_plan_64
    · rw [if_neg c15] at hf0
      refine r_subk [0] (lv' := [(0, .ref v0)]) rfl ?_
      exact J23 h v0 hf0
def f_X11_fault (h : aH) (v0 : Nat) (v1 : Int32) : Option (Int32) := if v1 = (0 : Int32) then (gR h 11 v0 3).bind fun t3 => (gI h 4 t3 12).bind fun t4 => some t4 else if v1 = (1 : Int32) then (gR h 11 v0 3).bind fun t1 => (gI h 4 t1 13).bind fun t2 => some t2 else some (-1 : Int32)
theorem s_X11_fault {h : aH} {v0 : Nat} {v1 : Int32} {out : Int32} (hf0 : f_X11_fault h v0 v1 = some out) : EV 0 yX11_fault cX11_fault 2 (some .int) h [.ref v0, .int v1] (some (.int out)) h 0 0 := by
  refine EV.of (own := RX11) (lv0 := [(0, .ref v0), (1, .int v1)]) (by decide +kernel) rfl rfl (Nat.le_of_ble_eq_true rfl) ?_
  intro p l e s m args below meth c D cA B Hb C hin
  unfold f_X11_fault at hf0
  refine r_iload_n C dX11_fault_0 rfl ?_
  by_cases c1 : v1 = (0 : Int32)
  · rw [if_pos c1] at hf0
    refine r_lookup (off := 27) (tgt := 28) C dX11_fault_1 (by decide) (by rw [c1]; decide) (by decide) ?_
    refine r_aload_n C dX11_fault_28 rfl ?_
    obtain ⟨t2, e3, hf0⟩ := ob hf0
    refine r_getR C fk_X11_23 rfl dX11_fault_29 e3 ?_
    obtain ⟨t4, e5, hf0⟩ := ob hf0
    refine r_getI C fk_X11_193 rfl dX11_fault_32 e5 ?_
    obtain rfl := so hf0
    exact r_iret C dX11_fault_35
  · rw [if_neg c1] at hf0
    by_cases c6 : v1 = (1 : Int32)
    · rw [if_pos c6] at hf0
      refine r_lookup (off := 35) (tgt := 36) C dX11_fault_1 (by decide) (by rw [c6]; decide) (by decide) ?_
      refine r_aload_n C dX11_fault_36 rfl ?_
      obtain ⟨t7, e8, hf0⟩ := ob hf0
      refine r_getR C fk_X11_23 rfl dX11_fault_37 e8 ?_
      obtain ⟨t9, e10, hf0⟩ := ob hf0
      refine r_getI C fk_X11_196 rfl dX11_fault_40 e10 ?_
      obtain rfl := so hf0
      exact r_iret C dX11_fault_43
    · rw [if_neg c6] at hf0
      refine r_lookup (off := 43) (tgt := 44) C dX11_fault_1 (by decide) (by show lookupswitch.offset [(0, 27), (1, 35)] 43 _ = _; simp only [lookupswitch.offset_cons, lookupswitch.offset_nil, if_neg (lne (j := 0) c1 (by decide)), if_neg (lne (j := 1) c6 (by decide))]) (by decide) ?_
      refine r_iconst (v := -1) C dX11_fault_44 (by decide) ?_
      obtain rfl := so hf0
      exact r_iret C dX11_fault_45
def f_X11_told (h : aH) (v0 : Nat) (v1 : Int32) : Option (Int32 × aH) := if v1 = (0 : Int32) then (gR h 11 v0 11).bind fun t34 => (gI h 1 t34 12).bind fun t35 => (ck h 11 v0).bind fun _ => bd2 (f_X11_give h v0 t35) fun t36 h37 => some (t36, h37) else if v1 = (1 : Int32) then (gR h 11 v0 11).bind fun t30 => (gI h 1 t30 13).bind fun t31 => (ck h 11 v0).bind fun _ => bd2 (f_X11_give h v0 t31) fun t32 h33 => some (t32, h33) else if v1 = (2 : Int32) then (gR h 11 v0 11).bind fun t26 => (gI h 1 t26 14).bind fun t27 => (ck h 11 v0).bind fun _ => bd2 (f_X11_give h v0 t27) fun t28 h29 => some (t28, h29) else if v1 = (3 : Int32) then (gR h 11 v0 11).bind fun t22 => (gI h 1 t22 16).bind fun t23 => (ck h 11 v0).bind fun _ => bd2 (f_X11_give h v0 t23) fun t24 h25 => some (t24, h25) else if v1 = (4 : Int32) then (gR h 11 v0 11).bind fun t18 => (gI h 1 t18 17).bind fun t19 => (ck h 11 v0).bind fun _ => bd2 (f_X11_give h v0 t19) fun t20 h21 => some (t20, h21) else if v1 = (5 : Int32) then (gR h 11 v0 6).bind fun t13 => (gR h 3 t13 0).bind fun t14 => (gI h 6 t14 5).bind fun t15 => (ck h 11 v0).bind fun _ => bd2 (f_X11_give h v0 t15) fun t16 h17 => some (t16, h17) else if v1 = (6 : Int32) then (gR h 11 v0 6).bind fun t8 => (gR h 3 t8 0).bind fun t9 => (gI h 6 t9 4).bind fun t10 => (ck h 11 v0).bind fun _ => bd2 (f_X11_give h v0 t10) fun t11 h12 => some (t11, h12) else if v1 = (7 : Int32) then (gR h 11 v0 6).bind fun t3 => (gR h 3 t3 0).bind fun t4 => (ck h 6 t4).bind fun _ => (f_X6_putToday h t4).bind fun t5 => (ck h 11 v0).bind fun _ => bd2 (f_X11_give h v0 t5) fun t6 h7 => some (t6, h7) else (ck h 11 v0).bind fun _ => bd2 (f_X11_refuse h v0 (1 : Int32)) fun t1 h2 => some (t1, h2)
theorem s_X11_told {h : aH} {v0 : Nat} {v1 : Int32} {out : Int32 × aH} (hf0 : f_X11_told h v0 v1 = some out) : EV 1 yX11_told cX11_told 2 (some .int) h [.ref v0, .int v1] (some (.int out.1)) out.2 0 0 := by
  refine EV.of (own := RX11) (lv0 := [(0, .ref v0), (1, .int v1)]) (by decide +kernel) rfl rfl (Nat.le_of_ble_eq_true rfl) ?_
  intro p l e s m args below meth c D cA B Hb C hin
  unfold f_X11_told at hf0
  refine r_iload_n C dX11_told_0 rfl ?_
  by_cases c1 : v1 = (0 : Int32)
  · rw [if_pos c1] at hf0
    refine r_tabIn (k := 0) (off := 47) (tgt := 48) C dX11_told_1 c1 (by decide) (by decide) (by decide) (by decide) ?_
    refine r_aload_n C dX11_told_48 rfl ?_
    refine r_aload_n C dX11_told_49 rfl ?_
    obtain ⟨t2, e3, hf0⟩ := ob hf0
    refine r_getR C fk_X11_74 rfl dX11_told_50 e3 ?_
    obtain ⟨t4, e5, hf0⟩ := ob hf0
    refine r_getI C fk_X11_199 rfl dX11_told_53 e5 ?_
    obtain ⟨u7, e6, hf0⟩ := ob hf0
    obtain ⟨t8, h9, e10, hf0⟩ := ob2 hf0
    refine r_cV (ci := 11) (rest := []) (st2 := [.int t8]) C (s_X11_give e10) mk_X11_give rfl (ck_k e6) (by decide) im_X11_give sl_X11_give lk_X11_179 rfl rfl rfl dX11_told_56 (Nat.le_of_ble_eq_true rfl) ⟨Nat.le_of_ble_eq_true rfl, Nat.le_of_ble_eq_true rfl⟩ ⟨Nat.le_of_ble_eq_true rfl, Nat.le_of_ble_eq_true rfl⟩ ?_
    obtain rfl := so hf0
    exact r_iret C dX11_told_59
  · rw [if_neg c1] at hf0
    by_cases c11 : v1 = (1 : Int32)
    · rw [if_pos c11] at hf0
      refine r_tabIn (k := 1) (off := 59) (tgt := 60) C dX11_told_1 c11 (by decide) (by decide) (by decide) (by decide) ?_
      refine r_aload_n C dX11_told_60 rfl ?_
      refine r_aload_n C dX11_told_61 rfl ?_
      obtain ⟨t12, e13, hf0⟩ := ob hf0
      refine r_getR C fk_X11_74 rfl dX11_told_62 e13 ?_
      obtain ⟨t14, e15, hf0⟩ := ob hf0
      refine r_getI C fk_X11_202 rfl dX11_told_65 e15 ?_
      obtain ⟨u17, e16, hf0⟩ := ob hf0
      obtain ⟨t18, h19, e20, hf0⟩ := ob2 hf0
      refine r_cV (ci := 11) (rest := []) (st2 := [.int t18]) C (s_X11_give e20) mk_X11_give rfl (ck_k e16) (by decide) im_X11_give sl_X11_give lk_X11_179 rfl rfl rfl dX11_told_68 (Nat.le_of_ble_eq_true rfl) ⟨Nat.le_of_ble_eq_true rfl, Nat.le_of_ble_eq_true rfl⟩ ⟨Nat.le_of_ble_eq_true rfl, Nat.le_of_ble_eq_true rfl⟩ ?_
      obtain rfl := so hf0
      exact r_iret C dX11_told_71
    · rw [if_neg c11] at hf0
      by_cases c21 : v1 = (2 : Int32)
      · rw [if_pos c21] at hf0
        refine r_tabIn (k := 2) (off := 71) (tgt := 72) C dX11_told_1 c21 (by decide) (by decide) (by decide) (by decide) ?_
        refine r_aload_n C dX11_told_72 rfl ?_
        refine r_aload_n C dX11_told_73 rfl ?_
        obtain ⟨t22, e23, hf0⟩ := ob hf0
        refine r_getR C fk_X11_74 rfl dX11_told_74 e23 ?_
        obtain ⟨t24, e25, hf0⟩ := ob hf0
        refine r_getI C fk_X11_205 rfl dX11_told_77 e25 ?_
        obtain ⟨u27, e26, hf0⟩ := ob hf0
        obtain ⟨t28, h29, e30, hf0⟩ := ob2 hf0
        refine r_cV (ci := 11) (rest := []) (st2 := [.int t28]) C (s_X11_give e30) mk_X11_give rfl (ck_k e26) (by decide) im_X11_give sl_X11_give lk_X11_179 rfl rfl rfl dX11_told_80 (Nat.le_of_ble_eq_true rfl) ⟨Nat.le_of_ble_eq_true rfl, Nat.le_of_ble_eq_true rfl⟩ ⟨Nat.le_of_ble_eq_true rfl, Nat.le_of_ble_eq_true rfl⟩ ?_
        obtain rfl := so hf0
        exact r_iret C dX11_told_83
      · rw [if_neg c21] at hf0
        by_cases c31 : v1 = (3 : Int32)
        · rw [if_pos c31] at hf0
          refine r_tabIn (k := 3) (off := 83) (tgt := 84) C dX11_told_1 c31 (by decide) (by decide) (by decide) (by decide) ?_
          refine r_aload_n C dX11_told_84 rfl ?_
          refine r_aload_n C dX11_told_85 rfl ?_
          obtain ⟨t32, e33, hf0⟩ := ob hf0
          refine r_getR C fk_X11_74 rfl dX11_told_86 e33 ?_
          obtain ⟨t34, e35, hf0⟩ := ob hf0
          refine r_getI C fk_X11_208 rfl dX11_told_89 e35 ?_
          obtain ⟨u37, e36, hf0⟩ := ob hf0
          obtain ⟨t38, h39, e40, hf0⟩ := ob2 hf0
          refine r_cV (ci := 11) (rest := []) (st2 := [.int t38]) C (s_X11_give e40) mk_X11_give rfl (ck_k e36) (by decide) im_X11_give sl_X11_give lk_X11_179 rfl rfl rfl dX11_told_92 (Nat.le_of_ble_eq_true rfl) ⟨Nat.le_of_ble_eq_true rfl, Nat.le_of_ble_eq_true rfl⟩ ⟨Nat.le_of_ble_eq_true rfl, Nat.le_of_ble_eq_true rfl⟩ ?_
          obtain rfl := so hf0
          exact r_iret C dX11_told_95
        · rw [if_neg c31] at hf0
          by_cases c41 : v1 = (4 : Int32)
          · rw [if_pos c41] at hf0
            refine r_tabIn (k := 4) (off := 95) (tgt := 96) C dX11_told_1 c41 (by decide) (by decide) (by decide) (by decide) ?_
            refine r_aload_n C dX11_told_96 rfl ?_
            refine r_aload_n C dX11_told_97 rfl ?_
            obtain ⟨t42, e43, hf0⟩ := ob hf0
            refine r_getR C fk_X11_74 rfl dX11_told_98 e43 ?_
            obtain ⟨t44, e45, hf0⟩ := ob hf0
            refine r_getI C fk_X11_211 rfl dX11_told_101 e45 ?_
            obtain ⟨u47, e46, hf0⟩ := ob hf0
            obtain ⟨t48, h49, e50, hf0⟩ := ob2 hf0
            refine r_cV (ci := 11) (rest := []) (st2 := [.int t48]) C (s_X11_give e50) mk_X11_give rfl (ck_k e46) (by decide) im_X11_give sl_X11_give lk_X11_179 rfl rfl rfl dX11_told_104 (Nat.le_of_ble_eq_true rfl) ⟨Nat.le_of_ble_eq_true rfl, Nat.le_of_ble_eq_true rfl⟩ ⟨Nat.le_of_ble_eq_true rfl, Nat.le_of_ble_eq_true rfl⟩ ?_
            obtain rfl := so hf0
            exact r_iret C dX11_told_107
          · rw [if_neg c41] at hf0
            by_cases c51 : v1 = (5 : Int32)
            · rw [if_pos c51] at hf0
              refine r_tabIn (k := 5) (off := 107) (tgt := 108) C dX11_told_1 c51 (by decide) (by decide) (by decide) (by decide) ?_
              refine r_aload_n C dX11_told_108 rfl ?_
              refine r_aload_n C dX11_told_109 rfl ?_
              obtain ⟨t52, e53, hf0⟩ := ob hf0
              refine r_getR C fk_X11_92 rfl dX11_told_110 e53 ?_
              obtain ⟨t54, e55, hf0⟩ := ob hf0
              refine r_getR C fk_X11_214 rfl dX11_told_113 e55 ?_
              obtain ⟨t56, e57, hf0⟩ := ob hf0
              refine r_getI C fk_X11_218 rfl dX11_told_116 e57 ?_
              obtain ⟨u59, e58, hf0⟩ := ob hf0
              obtain ⟨t60, h61, e62, hf0⟩ := ob2 hf0
              refine r_cV (ci := 11) (rest := []) (st2 := [.int t60]) C (s_X11_give e62) mk_X11_give rfl (ck_k e58) (by decide) im_X11_give sl_X11_give lk_X11_179 rfl rfl rfl dX11_told_119 (Nat.le_of_ble_eq_true rfl) ⟨Nat.le_of_ble_eq_true rfl, Nat.le_of_ble_eq_true rfl⟩ ⟨Nat.le_of_ble_eq_true rfl, Nat.le_of_ble_eq_true rfl⟩ ?_
              obtain rfl := so hf0
              exact r_iret C dX11_told_122
            · rw [if_neg c51] at hf0
              by_cases c63 : v1 = (6 : Int32)
              · rw [if_pos c63] at hf0
                refine r_tabIn (k := 6) (off := 122) (tgt := 123) C dX11_told_1 c63 (by decide) (by decide) (by decide) (by decide) ?_
                refine r_aload_n C dX11_told_123 rfl ?_
                refine r_aload_n C dX11_told_124 rfl ?_
                obtain ⟨t64, e65, hf0⟩ := ob hf0
                refine r_getR C fk_X11_92 rfl dX11_told_125 e65 ?_
                obtain ⟨t66, e67, hf0⟩ := ob hf0
                refine r_getR C fk_X11_214 rfl dX11_told_128 e67 ?_
                obtain ⟨t68, e69, hf0⟩ := ob hf0
                refine r_getI C fk_X11_223 rfl dX11_told_131 e69 ?_
                obtain ⟨u71, e70, hf0⟩ := ob hf0
                obtain ⟨t72, h73, e74, hf0⟩ := ob2 hf0
                refine r_cV (ci := 11) (rest := []) (st2 := [.int t72]) C (s_X11_give e74) mk_X11_give rfl (ck_k e70) (by decide) im_X11_give sl_X11_give lk_X11_179 rfl rfl rfl dX11_told_134 (Nat.le_of_ble_eq_true rfl) ⟨Nat.le_of_ble_eq_true rfl, Nat.le_of_ble_eq_true rfl⟩ ⟨Nat.le_of_ble_eq_true rfl, Nat.le_of_ble_eq_true rfl⟩ ?_
                obtain rfl := so hf0
                exact r_iret C dX11_told_137
              · rw [if_neg c63] at hf0
                by_cases c75 : v1 = (7 : Int32)
                · rw [if_pos c75] at hf0
                  refine r_tabIn (k := 7) (off := 137) (tgt := 138) C dX11_told_1 c75 (by decide) (by decide) (by decide) (by decide) ?_
                  refine r_aload_n C dX11_told_138 rfl ?_
                  refine r_aload_n C dX11_told_139 rfl ?_
                  obtain ⟨t76, e77, hf0⟩ := ob hf0
                  refine r_getR C fk_X11_92 rfl dX11_told_140 e77 ?_
                  obtain ⟨t78, e79, hf0⟩ := ob hf0
                  refine r_getR C fk_X11_214 rfl dX11_told_143 e79 ?_
                  obtain ⟨u81, e80, hf0⟩ := ob hf0
                  obtain ⟨t82, e83, hf0⟩ := ob hf0
                  refine r_cV (ci := 6) (rest := [.ref v0]) (st2 := [.int t82, .ref v0]) C (s_X6_putToday e83) mk_X6_putToday rfl (ck_k e80) (by decide) im_X6_putToday sl_X6_putToday lk_X11_226 rfl rfl rfl dX11_told_146 (Nat.le_of_ble_eq_true rfl) ⟨Nat.le_of_ble_eq_true rfl, Nat.le_of_ble_eq_true rfl⟩ ⟨Nat.le_of_ble_eq_true rfl, Nat.le_of_ble_eq_true rfl⟩ ?_
                  obtain ⟨u85, e84, hf0⟩ := ob hf0
                  obtain ⟨t86, h87, e88, hf0⟩ := ob2 hf0
                  refine r_cV (ci := 11) (rest := []) (st2 := [.int t86]) C (s_X11_give e88) mk_X11_give rfl (ck_k e84) (by decide) im_X11_give sl_X11_give lk_X11_179 rfl rfl rfl dX11_told_149 (Nat.le_of_ble_eq_true rfl) ⟨Nat.le_of_ble_eq_true rfl, Nat.le_of_ble_eq_true rfl⟩ ⟨Nat.le_of_ble_eq_true rfl, Nat.le_of_ble_eq_true rfl⟩ ?_
                  obtain rfl := so hf0
                  exact r_iret C dX11_told_152
                · rw [if_neg c75] at hf0
                  refine r_tabOut (tgt := 153) C dX11_told_1 (tsw (fun j j1 j2 => ?_)) (by decide) ?_
                  · rcases (show j = 0 ∨ j = 1 ∨ j = 2 ∨ j = 3 ∨ j = 4 ∨ j = 5 ∨ j = 6 ∨ j = 7 by omega) with rfl | rfl | rfl | rfl | rfl | rfl | rfl | rfl
                    · exact tsw_ne c1
                    · exact tsw_ne c11
                    · exact tsw_ne c21
                    · exact tsw_ne c31
                    · exact tsw_ne c41
                    · exact tsw_ne c51
                    · exact tsw_ne c63
                    · exact tsw_ne c75
                  · refine r_aload_n C dX11_told_153 rfl ?_
                    refine r_iconst (v := 1) C dX11_told_154 (by decide) ?_
                    obtain ⟨u90, e89, hf0⟩ := ob hf0
                    obtain ⟨t91, h92, e93, hf0⟩ := ob2 hf0
                    refine r_cV (ci := 11) (rest := []) (st2 := [.int t91]) C (s_X11_refuse e93) mk_X11_refuse rfl (ck_k e89) (by decide) im_X11_refuse sl_X11_refuse lk_X11_142 rfl rfl rfl dX11_told_155 (Nat.le_of_ble_eq_true rfl) ⟨Nat.le_of_ble_eq_true rfl, Nat.le_of_ble_eq_true rfl⟩ ⟨Nat.le_of_ble_eq_true rfl, Nat.le_of_ble_eq_true rfl⟩ ?_
                    obtain rfl := so hf0
                    exact r_iret C dX11_told_158
def f_X11_value_j54 (h : aH) (s0 : Nat) (s1 : Int32) : Option (Int32 × aH) := (ck h 11 s0).bind fun _ => bd2 (f_X11_give h s0 s1) fun t1 h2 => some (t1, h2)
def f_X11_value_j22 (h : aH) (v0 : Nat) : Option (Int32 × aH) := (ck h 11 v0).bind fun _ => bd2 (f_X11_refuse h v0 (1 : Int32)) fun t3 h4 => some (t3, h4)
def f_X11_value (h : aH) (v0 : Nat) (v1 : Int32) (v2 : Int32) : Option (Int32 × aH) := (gR h 11 v0 11).bind fun t5 => (gI h 1 t5 13).bind fun t6 => (f_X11_below h v1 t6).bind fun t7 => if t7 = 0 then f_X11_value_j22 h v0 else (f_X11_below h v2 (2 : Int32)).bind fun t8 => if t8 = 0 then f_X11_value_j22 h v0 else if v2 = 0 then (gR h 11 v0 11).bind fun t12 => (gR h 1 t12 3).bind fun t13 => (lI h t13 v1).bind fun t14 => f_X11_value_j54 h v0 t14 else (gR h 11 v0 11).bind fun t9 => (gR h 1 t9 4).bind fun t10 => (lI h t10 v1).bind fun t11 => f_X11_value_j54 h v0 t11
theorem s_X11_value {h : aH} {v0 : Nat} {v1 : Int32} {v2 : Int32} {out : Int32 × aH} (hf0 : f_X11_value h v0 v1 v2 = some out) : EV 1 yX11_value cX11_value 3 (some .int) h [.ref v0, .int v1, .int v2] (some (.int out.1)) out.2 0 0 := by
  refine EV.of (own := RX11) (lv0 := [(0, .ref v0), (1, .int v1), (2, .int v2)]) (by decide +kernel) rfl rfl (Nat.le_of_ble_eq_true rfl) ?_
  intro p l e s m args below meth c D cA B Hb C hin
  unfold f_X11_value at hf0
  have J54 : ∀ (h1 : aH) (t2 : Nat) (t3 : Int32), f_X11_value_j54 h1 t2 t3 = some out → gW p l e (rmO 1 0 0) s m args below meth c (MQ below (eQ D cA B Hb out.2 (some (.int out.1))) args s 0 0 (fun q => B ≤ q)) D cA B Hb 3 h1 54 [] [.int t3, .ref t2] 0 0 := by
    intro h1 t2 t3 hf0
    unfold f_X11_value_j54 at hf0
    obtain ⟨u5, e4, hf0⟩ := ob hf0
    obtain ⟨t6, h7, e8, hf0⟩ := ob2 hf0
    refine r_cV (ci := 11) (rest := []) (st2 := [.int t6]) C (s_X11_give e8) mk_X11_give rfl (ck_k e4) (by decide) im_X11_give sl_X11_give lk_X11_179 rfl rfl rfl dX11_value_54 (Nat.le_of_ble_eq_true rfl) ⟨Nat.le_of_ble_eq_true rfl, Nat.le_of_ble_eq_true rfl⟩ ⟨Nat.le_of_ble_eq_true rfl, Nat.le_of_ble_eq_true rfl⟩ ?_
    obtain rfl := so hf0
    exact r_iret C dX11_value_57
  have J22 : ∀ (h9 : aH) (t10 : Nat), f_X11_value_j22 h9 t10 = some out → gW p l e (rmO 1 0 0) s m args below meth c (MQ below (eQ D cA B Hb out.2 (some (.int out.1))) args s 0 0 (fun q => B ≤ q)) D cA B Hb 3 h9 22 [(0, .ref t10)] [] 0 0 := by
    intro h9 t10 hf0
    unfold f_X11_value_j22 at hf0
    refine r_aload_n C dX11_value_22 rfl ?_
    refine r_iconst (v := 1) C dX11_value_23 (by decide) ?_
    obtain ⟨u12, e11, hf0⟩ := ob hf0
    obtain ⟨t13, h14, e15, hf0⟩ := ob2 hf0
    refine r_cV (ci := 11) (rest := []) (st2 := [.int t13]) C (s_X11_refuse e15) mk_X11_refuse rfl (ck_k e11) (by decide) im_X11_refuse sl_X11_refuse lk_X11_142 rfl rfl rfl dX11_value_24 (Nat.le_of_ble_eq_true rfl) ⟨Nat.le_of_ble_eq_true rfl, Nat.le_of_ble_eq_true rfl⟩ ⟨Nat.le_of_ble_eq_true rfl, Nat.le_of_ble_eq_true rfl⟩ ?_
    obtain rfl := so hf0
    exact r_iret C dX11_value_27
  refine r_iload_n C dX11_value_0 rfl ?_
  refine r_aload_n C dX11_value_1 rfl ?_
  obtain ⟨t16, e17, hf0⟩ := ob hf0
  refine r_getR C fk_X11_74 rfl dX11_value_2 e17 ?_
  obtain ⟨t18, e19, hf0⟩ := ob hf0
  refine r_getI C fk_X11_202 rfl dX11_value_5 e19 ?_
  obtain ⟨t20, e21, hf0⟩ := ob hf0
  refine r_cS (rest := []) (st2 := [.int t20]) C (s_X11_below e21) mk_X11_below sm_X11_below lk_X11_119 rfl rfl rfl dX11_value_8 (Nat.le_of_ble_eq_true rfl) ⟨Nat.le_of_ble_eq_true rfl, Nat.le_of_ble_eq_true rfl⟩ ⟨Nat.le_of_ble_eq_true rfl, Nat.le_of_ble_eq_true rfl⟩ ?_
  refine r_ifeq (tgt := 22) C dX11_value_11 (by decide) (fun c22 => ?_) (fun c22 => ?_)
  · rw [if_pos c22] at hf0
    refine r_subk [0] (lv' := [(0, .ref v0)]) rfl ?_
    exact J22 h v0 hf0
  · rw [if_neg c22] at hf0
    refine r_iload_n C dX11_value_14 rfl ?_
    refine r_iconst (v := 2) C dX11_value_15 (by decide) ?_
    obtain ⟨t23, e24, hf0⟩ := ob hf0
    refine r_cS (rest := []) (st2 := [.int t23]) C (s_X11_below e24) mk_X11_below sm_X11_below lk_X11_119 rfl rfl rfl dX11_value_16 (Nat.le_of_ble_eq_true rfl) ⟨Nat.le_of_ble_eq_true rfl, Nat.le_of_ble_eq_true rfl⟩ ⟨Nat.le_of_ble_eq_true rfl, Nat.le_of_ble_eq_true rfl⟩ ?_
    refine r_ifne (tgt := 28) C dX11_value_19 (by decide) (fun c25 => ?_) (fun c25 => ?_)
    · rw [if_neg c25] at hf0
      refine r_aload_n C dX11_value_28 rfl ?_
      refine r_iload_n C dX11_value_29 rfl ?_
      refine r_ifne (tgt := 45) C dX11_value_30 (by decide) (fun c26 => ?_) (fun c26 => ?_)
      · rw [if_neg c26] at hf0
        refine r_aload_n C dX11_value_45 rfl ?_
        obtain ⟨t27, e28, hf0⟩ := ob hf0
        refine r_getR C fk_X11_74 rfl dX11_value_46 e28 ?_
        obtain ⟨t29, e30, hf0⟩ := ob hf0
        refine r_getR C fk_X11_233 rfl dX11_value_49 e30 ?_
        refine r_iload_n C dX11_value_52 rfl ?_
        obtain ⟨t31, e32, hf0⟩ := ob hf0
        refine r_ldI C dX11_value_53 e32 ?_
        refine r_subk [] (lv' := []) rfl ?_
        exact J54 h v0 t31 hf0
      · rw [if_pos c26] at hf0
        refine r_aload_n C dX11_value_33 rfl ?_
        obtain ⟨t33, e34, hf0⟩ := ob hf0
        refine r_getR C fk_X11_74 rfl dX11_value_34 e34 ?_
        obtain ⟨t35, e36, hf0⟩ := ob hf0
        refine r_getR C fk_X11_230 rfl dX11_value_37 e36 ?_
        refine r_iload_n C dX11_value_40 rfl ?_
        obtain ⟨t37, e38, hf0⟩ := ob hf0
        refine r_ldI C dX11_value_41 e38 ?_
        refine r_goto (tgt := 54) C dX11_value_42 (by decide) ?_
        refine r_subk [] (lv' := []) rfl ?_
        exact J54 h v0 t37 hf0
    · rw [if_pos c25] at hf0
      refine r_subk [0] (lv' := [(0, .ref v0)]) rfl ?_
      exact J22 h v0 hf0
def f_X11_world_j28 (h : aH) (v0 : Nat) : Option (Int32 × aH) := (ck h 11 v0).bind fun _ => bd2 (f_X11_refuse h v0 (1 : Int32)) fun t1 h2 => some (t1, h2)
def f_X11_world (h : aH) (v0 : Nat) (v1 : Int32) (v2 : Int32) : Option (Int32 × aH) := (gR h 11 v0 11).bind fun t3 => (gI h 1 t3 14).bind fun t4 => (f_X11_below h v1 t4).bind fun t5 => if t5 = 0 then f_X11_world_j28 h v0 else (gR h 11 v0 11).bind fun t6 => (gI h 1 t6 12).bind fun t7 => (f_X11_below h v2 t7).bind fun t8 => if t8 = 0 then f_X11_world_j28 h v0 else (gR h 11 v0 11).bind fun t9 => (ck h 1 t9).bind fun _ => (f_X1_valueIn h t9 v1 v2).bind fun t10 => (ck h 11 v0).bind fun _ => bd2 (f_X11_give h v0 t10) fun t11 h12 => some (t11, h12)
theorem s_X11_world {h : aH} {v0 : Nat} {v1 : Int32} {v2 : Int32} {out : Int32 × aH} (hf0 : f_X11_world h v0 v1 v2 = some out) : EV 1 yX11_world cX11_world 3 (some .int) h [.ref v0, .int v1, .int v2] (some (.int out.1)) out.2 0 0 := by
  refine EV.of (own := RX11) (lv0 := [(0, .ref v0), (1, .int v1), (2, .int v2)]) (by decide +kernel) rfl rfl (Nat.le_of_ble_eq_true rfl) ?_
  intro p l e s m args below meth c D cA B Hb C hin
  unfold f_X11_world at hf0
  have J28 : ∀ (h1 : aH) (t2 : Nat), f_X11_world_j28 h1 t2 = some out → gW p l e (rmO 1 0 0) s m args below meth c (MQ below (eQ D cA B Hb out.2 (some (.int out.1))) args s 0 0 (fun q => B ≤ q)) D cA B Hb 3 h1 28 [(0, .ref t2)] [] 0 0 := by
    intro h1 t2 hf0
    unfold f_X11_world_j28 at hf0
    refine r_aload_n C dX11_world_28 rfl ?_
    refine r_iconst (v := 1) C dX11_world_29 (by decide) ?_
    obtain ⟨u4, e3, hf0⟩ := ob hf0
    obtain ⟨t5, h6, e7, hf0⟩ := ob2 hf0
    refine r_cV (ci := 11) (rest := []) (st2 := [.int t5]) C (s_X11_refuse e7) mk_X11_refuse rfl (ck_k e3) (by decide) im_X11_refuse sl_X11_refuse lk_X11_142 rfl rfl rfl dX11_world_30 (Nat.le_of_ble_eq_true rfl) ⟨Nat.le_of_ble_eq_true rfl, Nat.le_of_ble_eq_true rfl⟩ ⟨Nat.le_of_ble_eq_true rfl, Nat.le_of_ble_eq_true rfl⟩ ?_
    obtain rfl := so hf0
    exact r_iret C dX11_world_33
  refine r_iload_n C dX11_world_0 rfl ?_
  refine r_aload_n C dX11_world_1 rfl ?_
  obtain ⟨t8, e9, hf0⟩ := ob hf0
  refine r_getR C fk_X11_74 rfl dX11_world_2 e9 ?_
  obtain ⟨t10, e11, hf0⟩ := ob hf0
  refine r_getI C fk_X11_205 rfl dX11_world_5 e11 ?_
  obtain ⟨t12, e13, hf0⟩ := ob hf0
  refine r_cS (rest := []) (st2 := [.int t12]) C (s_X11_below e13) mk_X11_below sm_X11_below lk_X11_119 rfl rfl rfl dX11_world_8 (Nat.le_of_ble_eq_true rfl) ⟨Nat.le_of_ble_eq_true rfl, Nat.le_of_ble_eq_true rfl⟩ ⟨Nat.le_of_ble_eq_true rfl, Nat.le_of_ble_eq_true rfl⟩ ?_
  refine r_ifeq (tgt := 28) C dX11_world_11 (by decide) (fun c14 => ?_) (fun c14 => ?_)
  · rw [if_pos c14] at hf0
    refine r_subk [0] (lv' := [(0, .ref v0)]) rfl ?_
    exact J28 h v0 hf0
  · rw [if_neg c14] at hf0
    refine r_iload_n C dX11_world_14 rfl ?_
    refine r_aload_n C dX11_world_15 rfl ?_
    obtain ⟨t15, e16, hf0⟩ := ob hf0
    refine r_getR C fk_X11_74 rfl dX11_world_16 e16 ?_
    obtain ⟨t17, e18, hf0⟩ := ob hf0
    refine r_getI C fk_X11_199 rfl dX11_world_19 e18 ?_
    obtain ⟨t19, e20, hf0⟩ := ob hf0
    refine r_cS (rest := []) (st2 := [.int t19]) C (s_X11_below e20) mk_X11_below sm_X11_below lk_X11_119 rfl rfl rfl dX11_world_22 (Nat.le_of_ble_eq_true rfl) ⟨Nat.le_of_ble_eq_true rfl, Nat.le_of_ble_eq_true rfl⟩ ⟨Nat.le_of_ble_eq_true rfl, Nat.le_of_ble_eq_true rfl⟩ ?_
    refine r_ifne (tgt := 34) C dX11_world_25 (by decide) (fun c21 => ?_) (fun c21 => ?_)
    · rw [if_neg c21] at hf0
      refine r_aload_n C dX11_world_34 rfl ?_
      refine r_aload_n C dX11_world_35 rfl ?_
      obtain ⟨t22, e23, hf0⟩ := ob hf0
      refine r_getR C fk_X11_74 rfl dX11_world_36 e23 ?_
      refine r_iload_n C dX11_world_39 rfl ?_
      refine r_iload_n C dX11_world_40 rfl ?_
      obtain ⟨u25, e24, hf0⟩ := ob hf0
      obtain ⟨t26, e27, hf0⟩ := ob hf0
      refine r_cV (ci := 1) (rest := [.ref v0]) (st2 := [.int t26, .ref v0]) C (s_X1_valueIn e27) mk_X1_valueIn rfl (ck_k e24) (by decide) im_X1_valueIn sl_X1_valueIn lk_X11_236 rfl rfl rfl dX11_world_41 (Nat.le_of_ble_eq_true rfl) ⟨Nat.le_of_ble_eq_true rfl, Nat.le_of_ble_eq_true rfl⟩ ⟨Nat.le_of_ble_eq_true rfl, Nat.le_of_ble_eq_true rfl⟩ ?_
      obtain ⟨u29, e28, hf0⟩ := ob hf0
      obtain ⟨t30, h31, e32, hf0⟩ := ob2 hf0
      refine r_cV (ci := 11) (rest := []) (st2 := [.int t30]) C (s_X11_give e32) mk_X11_give rfl (ck_k e28) (by decide) im_X11_give sl_X11_give lk_X11_179 rfl rfl rfl dX11_world_44 (Nat.le_of_ble_eq_true rfl) ⟨Nat.le_of_ble_eq_true rfl, Nat.le_of_ble_eq_true rfl⟩ ⟨Nat.le_of_ble_eq_true rfl, Nat.le_of_ble_eq_true rfl⟩ ?_
      obtain rfl := so hf0
      exact r_iret C dX11_world_47
    · rw [if_pos c21] at hf0
      refine r_subk [0] (lv' := [(0, .ref v0)]) rfl ?_
      exact J28 h v0 hf0
def f_X11_possible_j37 (h : aH) (s0 : Nat) (s1 : Int32) : Option (Int32 × aH) := (ck h 11 s0).bind fun _ => bd2 (f_X11_give h s0 s1) fun t1 h2 => some (t1, h2)
def f_X11_possible (h : aH) (v0 : Nat) (v1 : Int32) : Option (Int32 × aH) := (gR h 11 v0 11).bind fun t3 => (gI h 1 t3 14).bind fun t4 => (f_X11_below h v1 t4).bind fun t5 => if t5 = 0 then (ck h 11 v0).bind fun _ => bd2 (f_X11_refuse h v0 (1 : Int32)) fun t8 h9 => some (t8, h9) else (gR h 11 v0 11).bind fun t6 => (ck h 1 t6).bind fun _ => (f_X1_canBe h t6 v1).bind fun t7 => if t7 = 0 then f_X11_possible_j37 h v0 (0 : Int32) else f_X11_possible_j37 h v0 (1 : Int32)
theorem s_X11_possible {h : aH} {v0 : Nat} {v1 : Int32} {out : Int32 × aH} (hf0 : f_X11_possible h v0 v1 = some out) : EV 1 yX11_possible cX11_possible 2 (some .int) h [.ref v0, .int v1] (some (.int out.1)) out.2 0 0 := by
  refine EV.of (own := RX11) (lv0 := [(0, .ref v0), (1, .int v1)]) (by decide +kernel) rfl rfl (Nat.le_of_ble_eq_true rfl) ?_
  intro p l e s m args below meth c D cA B Hb C hin
  unfold f_X11_possible at hf0
  have J37 : ∀ (h1 : aH) (t2 : Nat) (t3 : Int32), f_X11_possible_j37 h1 t2 t3 = some out → gW p l e (rmO 1 0 0) s m args below meth c (MQ below (eQ D cA B Hb out.2 (some (.int out.1))) args s 0 0 (fun q => B ≤ q)) D cA B Hb 2 h1 37 [] [.int t3, .ref t2] 0 0 := by
    intro h1 t2 t3 hf0
    unfold f_X11_possible_j37 at hf0
    obtain ⟨u5, e4, hf0⟩ := ob hf0
    obtain ⟨t6, h7, e8, hf0⟩ := ob2 hf0
    refine r_cV (ci := 11) (rest := []) (st2 := [.int t6]) C (s_X11_give e8) mk_X11_give rfl (ck_k e4) (by decide) im_X11_give sl_X11_give lk_X11_179 rfl rfl rfl dX11_possible_37 (Nat.le_of_ble_eq_true rfl) ⟨Nat.le_of_ble_eq_true rfl, Nat.le_of_ble_eq_true rfl⟩ ⟨Nat.le_of_ble_eq_true rfl, Nat.le_of_ble_eq_true rfl⟩ ?_
    obtain rfl := so hf0
    exact r_iret C dX11_possible_40
  refine r_iload_n C dX11_possible_0 rfl ?_
  refine r_aload_n C dX11_possible_1 rfl ?_
  obtain ⟨t9, e10, hf0⟩ := ob hf0
  refine r_getR C fk_X11_74 rfl dX11_possible_2 e10 ?_
  obtain ⟨t11, e12, hf0⟩ := ob hf0
  refine r_getI C fk_X11_205 rfl dX11_possible_5 e12 ?_
  obtain ⟨t13, e14, hf0⟩ := ob hf0
  refine r_cS (rest := []) (st2 := [.int t13]) C (s_X11_below e14) mk_X11_below sm_X11_below lk_X11_119 rfl rfl rfl dX11_possible_8 (Nat.le_of_ble_eq_true rfl) ⟨Nat.le_of_ble_eq_true rfl, Nat.le_of_ble_eq_true rfl⟩ ⟨Nat.le_of_ble_eq_true rfl, Nat.le_of_ble_eq_true rfl⟩ ?_
  refine r_ifne (tgt := 20) C dX11_possible_11 (by decide) (fun c15 => ?_) (fun c15 => ?_)
  · rw [if_neg c15] at hf0
    refine r_aload_n C dX11_possible_20 rfl ?_
    refine r_aload_n C dX11_possible_21 rfl ?_
    obtain ⟨t16, e17, hf0⟩ := ob hf0
    refine r_getR C fk_X11_74 rfl dX11_possible_22 e17 ?_
    refine r_iload_n C dX11_possible_25 rfl ?_
    obtain ⟨u19, e18, hf0⟩ := ob hf0
    obtain ⟨t20, e21, hf0⟩ := ob hf0
    refine r_cV (ci := 1) (rest := [.ref v0]) (st2 := [.int t20, .ref v0]) C (s_X1_canBe e21) mk_X1_canBe rfl (ck_k e18) (by decide) im_X1_canBe sl_X1_canBe lk_X11_239 rfl rfl rfl dX11_possible_26 (Nat.le_of_ble_eq_true rfl) ⟨Nat.le_of_ble_eq_true rfl, Nat.le_of_ble_eq_true rfl⟩ ⟨Nat.le_of_ble_eq_true rfl, Nat.le_of_ble_eq_true rfl⟩ ?_
    refine r_ifeq (tgt := 36) C dX11_possible_29 (by decide) (fun c22 => ?_) (fun c22 => ?_)
    · rw [if_pos c22] at hf0
      refine r_iconst (v := 0) C dX11_possible_36 (by decide) ?_
      refine r_subk [] (lv' := []) rfl ?_
      exact J37 h v0 (0 : Int32) hf0
    · rw [if_neg c22] at hf0
      refine r_iconst (v := 1) C dX11_possible_32 (by decide) ?_
      refine r_goto (tgt := 37) C dX11_possible_33 (by decide) ?_
      refine r_subk [] (lv' := []) rfl ?_
      exact J37 h v0 (1 : Int32) hf0
  · rw [if_pos c15] at hf0
    refine r_aload_n C dX11_possible_14 rfl ?_
    refine r_iconst (v := 1) C dX11_possible_15 (by decide) ?_
    obtain ⟨u24, e23, hf0⟩ := ob hf0
    obtain ⟨t25, h26, e27, hf0⟩ := ob2 hf0
    refine r_cV (ci := 11) (rest := []) (st2 := [.int t25]) C (s_X11_refuse e27) mk_X11_refuse rfl (ck_k e23) (by decide) im_X11_refuse sl_X11_refuse lk_X11_142 rfl rfl rfl dX11_possible_16 (Nat.le_of_ble_eq_true rfl) ⟨Nat.le_of_ble_eq_true rfl, Nat.le_of_ble_eq_true rfl⟩ ⟨Nat.le_of_ble_eq_true rfl, Nat.le_of_ble_eq_true rfl⟩ ?_
    obtain rfl := so hf0
    exact r_iret C dX11_possible_19
def f_X11_holds_j28 (h : aH) (v0 : Nat) : Option (Int32 × aH) := (ck h 11 v0).bind fun _ => bd2 (f_X11_refuse h v0 (1 : Int32)) fun t1 h2 => some (t1, h2)
def f_X11_holds (h : aH) (v0 : Nat) (v1 : Int32) (v2 : Int32) : Option (Int32 × aH) := (gR h 11 v0 11).bind fun t3 => (gI h 1 t3 16).bind fun t4 => (f_X11_below h v1 t4).bind fun t5 => if t5 = 0 then f_X11_holds_j28 h v0 else (gR h 11 v0 11).bind fun t6 => (gI h 1 t6 14).bind fun t7 => (f_X11_below h v2 t7).bind fun t8 => if t8 = 0 then f_X11_holds_j28 h v0 else (gR h 11 v0 11).bind fun t9 => (ck h 1 t9).bind fun _ => (f_X1_inQuestion h t9 v1 v2).bind fun t10 => (ck h 11 v0).bind fun _ => bd2 (f_X11_give h v0 t10) fun t11 h12 => some (t11, h12)
theorem s_X11_holds {h : aH} {v0 : Nat} {v1 : Int32} {v2 : Int32} {out : Int32 × aH} (hf0 : f_X11_holds h v0 v1 v2 = some out) : EV 1 yX11_holds cX11_holds 3 (some .int) h [.ref v0, .int v1, .int v2] (some (.int out.1)) out.2 0 0 := by
  refine EV.of (own := RX11) (lv0 := [(0, .ref v0), (1, .int v1), (2, .int v2)]) (by decide +kernel) rfl rfl (Nat.le_of_ble_eq_true rfl) ?_
  intro p l e s m args below meth c D cA B Hb C hin
  unfold f_X11_holds at hf0
  have J28 : ∀ (h1 : aH) (t2 : Nat), f_X11_holds_j28 h1 t2 = some out → gW p l e (rmO 1 0 0) s m args below meth c (MQ below (eQ D cA B Hb out.2 (some (.int out.1))) args s 0 0 (fun q => B ≤ q)) D cA B Hb 3 h1 28 [(0, .ref t2)] [] 0 0 := by
    intro h1 t2 hf0
    unfold f_X11_holds_j28 at hf0
    refine r_aload_n C dX11_holds_28 rfl ?_
    refine r_iconst (v := 1) C dX11_holds_29 (by decide) ?_
    obtain ⟨u4, e3, hf0⟩ := ob hf0
    obtain ⟨t5, h6, e7, hf0⟩ := ob2 hf0
    refine r_cV (ci := 11) (rest := []) (st2 := [.int t5]) C (s_X11_refuse e7) mk_X11_refuse rfl (ck_k e3) (by decide) im_X11_refuse sl_X11_refuse lk_X11_142 rfl rfl rfl dX11_holds_30 (Nat.le_of_ble_eq_true rfl) ⟨Nat.le_of_ble_eq_true rfl, Nat.le_of_ble_eq_true rfl⟩ ⟨Nat.le_of_ble_eq_true rfl, Nat.le_of_ble_eq_true rfl⟩ ?_
    obtain rfl := so hf0
    exact r_iret C dX11_holds_33
  refine r_iload_n C dX11_holds_0 rfl ?_
  refine r_aload_n C dX11_holds_1 rfl ?_
  obtain ⟨t8, e9, hf0⟩ := ob hf0
  refine r_getR C fk_X11_74 rfl dX11_holds_2 e9 ?_
  obtain ⟨t10, e11, hf0⟩ := ob hf0
  refine r_getI C fk_X11_208 rfl dX11_holds_5 e11 ?_
  obtain ⟨t12, e13, hf0⟩ := ob hf0
  refine r_cS (rest := []) (st2 := [.int t12]) C (s_X11_below e13) mk_X11_below sm_X11_below lk_X11_119 rfl rfl rfl dX11_holds_8 (Nat.le_of_ble_eq_true rfl) ⟨Nat.le_of_ble_eq_true rfl, Nat.le_of_ble_eq_true rfl⟩ ⟨Nat.le_of_ble_eq_true rfl, Nat.le_of_ble_eq_true rfl⟩ ?_
  refine r_ifeq (tgt := 28) C dX11_holds_11 (by decide) (fun c14 => ?_) (fun c14 => ?_)
  · rw [if_pos c14] at hf0
    refine r_subk [0] (lv' := [(0, .ref v0)]) rfl ?_
    exact J28 h v0 hf0
  · rw [if_neg c14] at hf0
    refine r_iload_n C dX11_holds_14 rfl ?_
    refine r_aload_n C dX11_holds_15 rfl ?_
    obtain ⟨t15, e16, hf0⟩ := ob hf0
    refine r_getR C fk_X11_74 rfl dX11_holds_16 e16 ?_
    obtain ⟨t17, e18, hf0⟩ := ob hf0
    refine r_getI C fk_X11_205 rfl dX11_holds_19 e18 ?_
    obtain ⟨t19, e20, hf0⟩ := ob hf0
    refine r_cS (rest := []) (st2 := [.int t19]) C (s_X11_below e20) mk_X11_below sm_X11_below lk_X11_119 rfl rfl rfl dX11_holds_22 (Nat.le_of_ble_eq_true rfl) ⟨Nat.le_of_ble_eq_true rfl, Nat.le_of_ble_eq_true rfl⟩ ⟨Nat.le_of_ble_eq_true rfl, Nat.le_of_ble_eq_true rfl⟩ ?_
    refine r_ifne (tgt := 34) C dX11_holds_25 (by decide) (fun c21 => ?_) (fun c21 => ?_)
    · rw [if_neg c21] at hf0
      refine r_aload_n C dX11_holds_34 rfl ?_
      refine r_aload_n C dX11_holds_35 rfl ?_
      obtain ⟨t22, e23, hf0⟩ := ob hf0
      refine r_getR C fk_X11_74 rfl dX11_holds_36 e23 ?_
      refine r_iload_n C dX11_holds_39 rfl ?_
      refine r_iload_n C dX11_holds_40 rfl ?_
      obtain ⟨u25, e24, hf0⟩ := ob hf0
      obtain ⟨t26, e27, hf0⟩ := ob hf0
      refine r_cV (ci := 1) (rest := [.ref v0]) (st2 := [.int t26, .ref v0]) C (s_X1_inQuestion e27) mk_X1_inQuestion rfl (ck_k e24) (by decide) im_X1_inQuestion sl_X1_inQuestion lk_X11_242 rfl rfl rfl dX11_holds_41 (Nat.le_of_ble_eq_true rfl) ⟨Nat.le_of_ble_eq_true rfl, Nat.le_of_ble_eq_true rfl⟩ ⟨Nat.le_of_ble_eq_true rfl, Nat.le_of_ble_eq_true rfl⟩ ?_
      obtain ⟨u29, e28, hf0⟩ := ob hf0
      obtain ⟨t30, h31, e32, hf0⟩ := ob2 hf0
      refine r_cV (ci := 11) (rest := []) (st2 := [.int t30]) C (s_X11_give e32) mk_X11_give rfl (ck_k e28) (by decide) im_X11_give sl_X11_give lk_X11_179 rfl rfl rfl dX11_holds_44 (Nat.le_of_ble_eq_true rfl) ⟨Nat.le_of_ble_eq_true rfl, Nat.le_of_ble_eq_true rfl⟩ ⟨Nat.le_of_ble_eq_true rfl, Nat.le_of_ble_eq_true rfl⟩ ?_
      obtain rfl := so hf0
      exact r_iret C dX11_holds_47
    · rw [if_pos c21] at hf0
      refine r_subk [0] (lv' := [(0, .ref v0)]) rfl ?_
      exact J28 h v0 hf0
def f_X11_fee (h : aH) (v0 : Nat) (v1 : Int32) : Option (Int32 × aH) := (gR h 11 v0 11).bind fun t1 => (gI h 1 t1 16).bind fun t2 => (f_X11_below h v1 t2).bind fun t3 => if t3 = 0 then (ck h 11 v0).bind fun _ => bd2 (f_X11_refuse h v0 (1 : Int32)) fun t9 h10 => some (t9, h10) else (gR h 11 v0 11).bind fun t4 => (gR h 1 t4 7).bind fun t5 => (lI h t5 v1).bind fun t6 => (ck h 11 v0).bind fun _ => bd2 (f_X11_give h v0 t6) fun t7 h8 => some (t7, h8)
theorem s_X11_fee {h : aH} {v0 : Nat} {v1 : Int32} {out : Int32 × aH} (hf0 : f_X11_fee h v0 v1 = some out) : EV 1 yX11_fee cX11_fee 2 (some .int) h [.ref v0, .int v1] (some (.int out.1)) out.2 0 0 := by
  refine EV.of (own := RX11) (lv0 := [(0, .ref v0), (1, .int v1)]) (by decide +kernel) rfl rfl (Nat.le_of_ble_eq_true rfl) ?_
  intro p l e s m args below meth c D cA B Hb C hin
  unfold f_X11_fee at hf0
  refine r_iload_n C dX11_fee_0 rfl ?_
  refine r_aload_n C dX11_fee_1 rfl ?_
  obtain ⟨t1, e2, hf0⟩ := ob hf0
  refine r_getR C fk_X11_74 rfl dX11_fee_2 e2 ?_
  obtain ⟨t3, e4, hf0⟩ := ob hf0
  refine r_getI C fk_X11_208 rfl dX11_fee_5 e4 ?_
  obtain ⟨t5, e6, hf0⟩ := ob hf0
  refine r_cS (rest := []) (st2 := [.int t5]) C (s_X11_below e6) mk_X11_below sm_X11_below lk_X11_119 rfl rfl rfl dX11_fee_8 (Nat.le_of_ble_eq_true rfl) ⟨Nat.le_of_ble_eq_true rfl, Nat.le_of_ble_eq_true rfl⟩ ⟨Nat.le_of_ble_eq_true rfl, Nat.le_of_ble_eq_true rfl⟩ ?_
  refine r_ifne (tgt := 20) C dX11_fee_11 (by decide) (fun c7 => ?_) (fun c7 => ?_)
  · rw [if_neg c7] at hf0
    refine r_aload_n C dX11_fee_20 rfl ?_
    refine r_aload_n C dX11_fee_21 rfl ?_
    obtain ⟨t8, e9, hf0⟩ := ob hf0
    refine r_getR C fk_X11_74 rfl dX11_fee_22 e9 ?_
    obtain ⟨t10, e11, hf0⟩ := ob hf0
    refine r_getR C fk_X11_245 rfl dX11_fee_25 e11 ?_
    refine r_iload_n C dX11_fee_28 rfl ?_
    obtain ⟨t12, e13, hf0⟩ := ob hf0
    refine r_ldI C dX11_fee_29 e13 ?_
    obtain ⟨u15, e14, hf0⟩ := ob hf0
    obtain ⟨t16, h17, e18, hf0⟩ := ob2 hf0
    refine r_cV (ci := 11) (rest := []) (st2 := [.int t16]) C (s_X11_give e18) mk_X11_give rfl (ck_k e14) (by decide) im_X11_give sl_X11_give lk_X11_179 rfl rfl rfl dX11_fee_30 (Nat.le_of_ble_eq_true rfl) ⟨Nat.le_of_ble_eq_true rfl, Nat.le_of_ble_eq_true rfl⟩ ⟨Nat.le_of_ble_eq_true rfl, Nat.le_of_ble_eq_true rfl⟩ ?_
    obtain rfl := so hf0
    exact r_iret C dX11_fee_33
  · rw [if_pos c7] at hf0
    refine r_aload_n C dX11_fee_14 rfl ?_
    refine r_iconst (v := 1) C dX11_fee_15 (by decide) ?_
    obtain ⟨u20, e19, hf0⟩ := ob hf0
    obtain ⟨t21, h22, e23, hf0⟩ := ob2 hf0
    refine r_cV (ci := 11) (rest := []) (st2 := [.int t21]) C (s_X11_refuse e23) mk_X11_refuse rfl (ck_k e19) (by decide) im_X11_refuse sl_X11_refuse lk_X11_142 rfl rfl rfl dX11_fee_16 (Nat.le_of_ble_eq_true rfl) ⟨Nat.le_of_ble_eq_true rfl, Nat.le_of_ble_eq_true rfl⟩ ⟨Nat.le_of_ble_eq_true rfl, Nat.le_of_ble_eq_true rfl⟩ ?_
    obtain rfl := so hf0
    exact r_iret C dX11_fee_19
def f_X11_witness_j79 (h : aH) (s0 : Nat) (s1 : Int32) : Option (Int32 × aH) := (ck h 11 s0).bind fun _ => bd2 (f_X11_give h s0 s1) fun t1 h2 => some (t1, h2)
def f_X11_witness_j23 (h : aH) (v0 : Nat) : Option (Int32 × aH) := (ck h 11 v0).bind fun _ => bd2 (f_X11_refuse h v0 (1 : Int32)) fun t3 h4 => some (t3, h4)
def f_X11_witness (h : aH) (v0 : Nat) (v1 : Int32) (v2 : Int32) : Option (Int32 × aH) := (gR h 11 v0 11).bind fun t5 => (gI h 1 t5 17).bind fun t6 => (f_X11_below h v1 t6).bind fun t7 => if t7 = 0 then f_X11_witness_j23 h v0 else (f_X11_below h v2 (6 : Int32)).bind fun t8 => if t8 = 0 then f_X11_witness_j23 h v0 else if (4 : Int32) ≤ v2 then if v2 = (4 : Int32) then (gR h 11 v0 11).bind fun t12 => (gR h 1 t12 9).bind fun t13 => (lI h t13 v1).bind fun t14 => f_X11_witness_j79 h v0 t14 else (gR h 11 v0 11).bind fun t9 => (gR h 1 t9 10).bind fun t10 => (lI h t10 v1).bind fun t11 => f_X11_witness_j79 h v0 t11 else (gR h 11 v0 11).bind fun t15 => (gR h 1 t15 8).bind fun t16 => (lI h t16 ((v1 * (4 : Int32)) + v2)).bind fun t17 => (ck h 11 v0).bind fun _ => bd2 (f_X11_give h v0 t17) fun t18 h19 => some (t18, h19)
theorem s_X11_witness {h : aH} {v0 : Nat} {v1 : Int32} {v2 : Int32} {out : Int32 × aH} (hf0 : f_X11_witness h v0 v1 v2 = some out) : EV 1 yX11_witness cX11_witness 3 (some .int) h [.ref v0, .int v1, .int v2] (some (.int out.1)) out.2 0 0 := by
  refine EV.of (own := RX11) (lv0 := [(0, .ref v0), (1, .int v1), (2, .int v2)]) (by decide +kernel) rfl rfl (Nat.le_of_ble_eq_true rfl) ?_
  intro p l e s m args below meth c D cA B Hb C hin
  unfold f_X11_witness at hf0
  have J79 : ∀ (h1 : aH) (t2 : Nat) (t3 : Int32), f_X11_witness_j79 h1 t2 t3 = some out → gW p l e (rmO 1 0 0) s m args below meth c (MQ below (eQ D cA B Hb out.2 (some (.int out.1))) args s 0 0 (fun q => B ≤ q)) D cA B Hb 3 h1 79 [] [.int t3, .ref t2] 0 0 := by
    intro h1 t2 t3 hf0
    unfold f_X11_witness_j79 at hf0
    obtain ⟨u5, e4, hf0⟩ := ob hf0
    obtain ⟨t6, h7, e8, hf0⟩ := ob2 hf0
    refine r_cV (ci := 11) (rest := []) (st2 := [.int t6]) C (s_X11_give e8) mk_X11_give rfl (ck_k e4) (by decide) im_X11_give sl_X11_give lk_X11_179 rfl rfl rfl dX11_witness_79 (Nat.le_of_ble_eq_true rfl) ⟨Nat.le_of_ble_eq_true rfl, Nat.le_of_ble_eq_true rfl⟩ ⟨Nat.le_of_ble_eq_true rfl, Nat.le_of_ble_eq_true rfl⟩ ?_
    obtain rfl := so hf0
    exact r_iret C dX11_witness_82
  have J23 : ∀ (h9 : aH) (t10 : Nat), f_X11_witness_j23 h9 t10 = some out → gW p l e (rmO 1 0 0) s m args below meth c (MQ below (eQ D cA B Hb out.2 (some (.int out.1))) args s 0 0 (fun q => B ≤ q)) D cA B Hb 3 h9 23 [(0, .ref t10)] [] 0 0 := by
    intro h9 t10 hf0
    unfold f_X11_witness_j23 at hf0
    refine r_aload_n C dX11_witness_23 rfl ?_
    refine r_iconst (v := 1) C dX11_witness_24 (by decide) ?_
    obtain ⟨u12, e11, hf0⟩ := ob hf0
    obtain ⟨t13, h14, e15, hf0⟩ := ob2 hf0
    refine r_cV (ci := 11) (rest := []) (st2 := [.int t13]) C (s_X11_refuse e15) mk_X11_refuse rfl (ck_k e11) (by decide) im_X11_refuse sl_X11_refuse lk_X11_142 rfl rfl rfl dX11_witness_25 (Nat.le_of_ble_eq_true rfl) ⟨Nat.le_of_ble_eq_true rfl, Nat.le_of_ble_eq_true rfl⟩ ⟨Nat.le_of_ble_eq_true rfl, Nat.le_of_ble_eq_true rfl⟩ ?_
    obtain rfl := so hf0
    exact r_iret C dX11_witness_28
  refine r_iload_n C dX11_witness_0 rfl ?_
  refine r_aload_n C dX11_witness_1 rfl ?_
  obtain ⟨t16, e17, hf0⟩ := ob hf0
  refine r_getR C fk_X11_74 rfl dX11_witness_2 e17 ?_
  obtain ⟨t18, e19, hf0⟩ := ob hf0
  refine r_getI C fk_X11_211 rfl dX11_witness_5 e19 ?_
  obtain ⟨t20, e21, hf0⟩ := ob hf0
  refine r_cS (rest := []) (st2 := [.int t20]) C (s_X11_below e21) mk_X11_below sm_X11_below lk_X11_119 rfl rfl rfl dX11_witness_8 (Nat.le_of_ble_eq_true rfl) ⟨Nat.le_of_ble_eq_true rfl, Nat.le_of_ble_eq_true rfl⟩ ⟨Nat.le_of_ble_eq_true rfl, Nat.le_of_ble_eq_true rfl⟩ ?_
  refine r_ifeq (tgt := 23) C dX11_witness_11 (by decide) (fun c22 => ?_) (fun c22 => ?_)
  · rw [if_pos c22] at hf0
    refine r_subk [0] (lv' := [(0, .ref v0)]) rfl ?_
    exact J23 h v0 hf0
  · rw [if_neg c22] at hf0
    refine r_iload_n C dX11_witness_14 rfl ?_
    refine r_bipush (v := 6) C dX11_witness_15 (by decide) ?_
    obtain ⟨t23, e24, hf0⟩ := ob hf0
    refine r_cS (rest := []) (st2 := [.int t23]) C (s_X11_below e24) mk_X11_below sm_X11_below lk_X11_119 rfl rfl rfl dX11_witness_17 (Nat.le_of_ble_eq_true rfl) ⟨Nat.le_of_ble_eq_true rfl, Nat.le_of_ble_eq_true rfl⟩ ⟨Nat.le_of_ble_eq_true rfl, Nat.le_of_ble_eq_true rfl⟩ ?_
    refine r_ifne (tgt := 29) C dX11_witness_20 (by decide) (fun c25 => ?_) (fun c25 => ?_)
    · rw [if_neg c25] at hf0
      refine r_iload_n C dX11_witness_29 rfl ?_
      refine r_iconst (v := 4) C dX11_witness_30 (by decide) ?_
      refine r_icmp_ge (tgt := 52) C dX11_witness_31 (by decide) (fun c26 => ?_) (fun c26 => ?_)
      · rw [if_pos c26] at hf0
        refine r_aload_n C dX11_witness_52 rfl ?_
        refine r_iload_n C dX11_witness_53 rfl ?_
        refine r_iconst (v := 4) C dX11_witness_54 (by decide) ?_
        refine r_icmp_ne (tgt := 70) C dX11_witness_55 (by decide) (fun c27 => ?_) (fun c27 => ?_)
        · rw [if_neg c27] at hf0
          refine r_aload_n C dX11_witness_70 rfl ?_
          obtain ⟨t28, e29, hf0⟩ := ob hf0
          refine r_getR C fk_X11_74 rfl dX11_witness_71 e29 ?_
          obtain ⟨t30, e31, hf0⟩ := ob hf0
          refine r_getR C fk_X11_254 rfl dX11_witness_74 e31 ?_
          refine r_iload_n C dX11_witness_77 rfl ?_
          obtain ⟨t32, e33, hf0⟩ := ob hf0
          refine r_ldI C dX11_witness_78 e33 ?_
          refine r_subk [] (lv' := []) rfl ?_
          exact J79 h v0 t32 hf0
        · rw [if_pos c27] at hf0
          refine r_aload_n C dX11_witness_58 rfl ?_
          obtain ⟨t34, e35, hf0⟩ := ob hf0
          refine r_getR C fk_X11_74 rfl dX11_witness_59 e35 ?_
          obtain ⟨t36, e37, hf0⟩ := ob hf0
          refine r_getR C fk_X11_251 rfl dX11_witness_62 e37 ?_
          refine r_iload_n C dX11_witness_65 rfl ?_
          obtain ⟨t38, e39, hf0⟩ := ob hf0
          refine r_ldI C dX11_witness_66 e39 ?_
          refine r_goto (tgt := 79) C dX11_witness_67 (by decide) ?_
          refine r_subk [] (lv' := []) rfl ?_
          exact J79 h v0 t38 hf0
      · rw [if_neg c26] at hf0
        refine r_aload_n C dX11_witness_34 rfl ?_
        refine r_aload_n C dX11_witness_35 rfl ?_
        obtain ⟨t40, e41, hf0⟩ := ob hf0
        refine r_getR C fk_X11_74 rfl dX11_witness_36 e41 ?_
        obtain ⟨t42, e43, hf0⟩ := ob hf0
        refine r_getR C fk_X11_248 rfl dX11_witness_39 e43 ?_
        refine r_iload_n C dX11_witness_42 rfl ?_
        refine r_iconst (v := 4) C dX11_witness_43 (by decide) ?_
        refine r_imul C dX11_witness_44 ?_
        refine r_iload_n C dX11_witness_45 rfl ?_
        refine r_iadd C dX11_witness_46 ?_
        obtain ⟨t44, e45, hf0⟩ := ob hf0
        refine r_ldI C dX11_witness_47 e45 ?_
        obtain ⟨u47, e46, hf0⟩ := ob hf0
        obtain ⟨t48, h49, e50, hf0⟩ := ob2 hf0
        refine r_cV (ci := 11) (rest := []) (st2 := [.int t48]) C (s_X11_give e50) mk_X11_give rfl (ck_k e46) (by decide) im_X11_give sl_X11_give lk_X11_179 rfl rfl rfl dX11_witness_48 (Nat.le_of_ble_eq_true rfl) ⟨Nat.le_of_ble_eq_true rfl, Nat.le_of_ble_eq_true rfl⟩ ⟨Nat.le_of_ble_eq_true rfl, Nat.le_of_ble_eq_true rfl⟩ ?_
        obtain rfl := so hf0
        exact r_iret C dX11_witness_51
    · rw [if_pos c25] at hf0
      refine r_subk [0] (lv' := [(0, .ref v0)]) rfl ?_
      exact J23 h v0 hf0
def f_X11_answer_j51 (h : aH) (v0 : Nat) : Option (Int32 × aH) := (ck h 11 v0).bind fun _ => bd2 (f_X11_refuse h v0 (1 : Int32)) fun t1 h2 => some (t1, h2)
def f_X11_answer (h : aH) (v0 : Nat) (v1 : Int32) (v2 : Int32) (v3 : Int32) (v4 : Int32) : Option (Int32 × aH) := (gR h 11 v0 11).bind fun t3 => (gI h 1 t3 17).bind fun t4 => (f_X11_below h v1 t4).bind fun t5 => if t5 = 0 then f_X11_answer_j51 h v0 else (gR h 11 v0 11).bind fun t6 => (gI h 1 t6 16).bind fun t7 => (f_X11_below h v2 t7).bind fun t8 => if t8 = 0 then f_X11_answer_j51 h v0 else (gR h 11 v0 11).bind fun t9 => (gI h 1 t9 14).bind fun t10 => (f_X11_below h v3 t10).bind fun t11 => if t11 = 0 then f_X11_answer_j51 h v0 else (f_X11_below h v4 (4 : Int32)).bind fun t12 => if t12 = 0 then f_X11_answer_j51 h v0 else (gR h 11 v0 11).bind fun t13 => (ck h 1 t13).bind fun _ => (f_X1_canBe h t13 v3).bind fun t14 => if t14 = 0 then (ck h 11 v0).bind fun _ => bd2 (f_X11_refuse h v0 (7 : Int32)) fun t20 h21 => some (t20, h21) else (gR h 11 v0 11).bind fun t15 => (ck h 1 t15).bind fun _ => (f_X1_packedAnswers h t15 v1 v2 v3).bind fun t16 => (f_X1_answerOf h t16 v4).bind fun t17 => (ck h 11 v0).bind fun _ => bd2 (f_X11_give h v0 t17) fun t18 h19 => some (t18, h19)
theorem s_X11_answer {h : aH} {v0 : Nat} {v1 : Int32} {v2 : Int32} {v3 : Int32} {v4 : Int32} {out : Int32 × aH} (hf0 : f_X11_answer h v0 v1 v2 v3 v4 = some out) : EV 1 yX11_answer cX11_answer 5 (some .int) h [.ref v0, .int v1, .int v2, .int v3, .int v4] (some (.int out.1)) out.2 0 0 := by
  refine EV.of (own := RX11) (lv0 := [(0, .ref v0), (1, .int v1), (2, .int v2), (3, .int v3), (4, .int v4)]) (by decide +kernel) rfl rfl (Nat.le_of_ble_eq_true rfl) ?_
  intro p l e s m args below meth c D cA B Hb C hin
  unfold f_X11_answer at hf0
  have J51 : ∀ (h1 : aH) (t2 : Nat), f_X11_answer_j51 h1 t2 = some out → gW p l e (rmO 1 0 0) s m args below meth c (MQ below (eQ D cA B Hb out.2 (some (.int out.1))) args s 0 0 (fun q => B ≤ q)) D cA B Hb 5 h1 51 [(0, .ref t2)] [] 0 0 := by
    intro h1 t2 hf0
    unfold f_X11_answer_j51 at hf0
    refine r_aload_n C dX11_answer_51 rfl ?_
    refine r_iconst (v := 1) C dX11_answer_52 (by decide) ?_
    obtain ⟨u4, e3, hf0⟩ := ob hf0
    obtain ⟨t5, h6, e7, hf0⟩ := ob2 hf0
    refine r_cV (ci := 11) (rest := []) (st2 := [.int t5]) C (s_X11_refuse e7) mk_X11_refuse rfl (ck_k e3) (by decide) im_X11_refuse sl_X11_refuse lk_X11_142 rfl rfl rfl dX11_answer_53 (Nat.le_of_ble_eq_true rfl) ⟨Nat.le_of_ble_eq_true rfl, Nat.le_of_ble_eq_true rfl⟩ ⟨Nat.le_of_ble_eq_true rfl, Nat.le_of_ble_eq_true rfl⟩ ?_
    obtain rfl := so hf0
    exact r_iret C dX11_answer_56
  refine r_iload_n C dX11_answer_0 rfl ?_
  refine r_aload_n C dX11_answer_1 rfl ?_
  obtain ⟨t8, e9, hf0⟩ := ob hf0
  refine r_getR C fk_X11_74 rfl dX11_answer_2 e9 ?_
  obtain ⟨t10, e11, hf0⟩ := ob hf0
  refine r_getI C fk_X11_211 rfl dX11_answer_5 e11 ?_
  obtain ⟨t12, e13, hf0⟩ := ob hf0
  refine r_cS (rest := []) (st2 := [.int t12]) C (s_X11_below e13) mk_X11_below sm_X11_below lk_X11_119 rfl rfl rfl dX11_answer_8 (Nat.le_of_ble_eq_true rfl) ⟨Nat.le_of_ble_eq_true rfl, Nat.le_of_ble_eq_true rfl⟩ ⟨Nat.le_of_ble_eq_true rfl, Nat.le_of_ble_eq_true rfl⟩ ?_
  refine r_ifeq (tgt := 51) C dX11_answer_11 (by decide) (fun c14 => ?_) (fun c14 => ?_)
  · rw [if_pos c14] at hf0
    refine r_subk [0] (lv' := [(0, .ref v0)]) rfl ?_
    exact J51 h v0 hf0
  · rw [if_neg c14] at hf0
    refine r_iload_n C dX11_answer_14 rfl ?_
    refine r_aload_n C dX11_answer_15 rfl ?_
    obtain ⟨t15, e16, hf0⟩ := ob hf0
    refine r_getR C fk_X11_74 rfl dX11_answer_16 e16 ?_
    obtain ⟨t17, e18, hf0⟩ := ob hf0
    refine r_getI C fk_X11_208 rfl dX11_answer_19 e18 ?_
    obtain ⟨t19, e20, hf0⟩ := ob hf0
    refine r_cS (rest := []) (st2 := [.int t19]) C (s_X11_below e20) mk_X11_below sm_X11_below lk_X11_119 rfl rfl rfl dX11_answer_22 (Nat.le_of_ble_eq_true rfl) ⟨Nat.le_of_ble_eq_true rfl, Nat.le_of_ble_eq_true rfl⟩ ⟨Nat.le_of_ble_eq_true rfl, Nat.le_of_ble_eq_true rfl⟩ ?_
    refine r_ifeq (tgt := 51) C dX11_answer_25 (by decide) (fun c21 => ?_) (fun c21 => ?_)
    · rw [if_pos c21] at hf0
      refine r_subk [0] (lv' := [(0, .ref v0)]) rfl ?_
      exact J51 h v0 hf0
    · rw [if_neg c21] at hf0
      refine r_iload_n C dX11_answer_28 rfl ?_
      refine r_aload_n C dX11_answer_29 rfl ?_
      obtain ⟨t22, e23, hf0⟩ := ob hf0
      refine r_getR C fk_X11_74 rfl dX11_answer_30 e23 ?_
      obtain ⟨t24, e25, hf0⟩ := ob hf0
      refine r_getI C fk_X11_205 rfl dX11_answer_33 e25 ?_
      obtain ⟨t26, e27, hf0⟩ := ob hf0
      refine r_cS (rest := []) (st2 := [.int t26]) C (s_X11_below e27) mk_X11_below sm_X11_below lk_X11_119 rfl rfl rfl dX11_answer_36 (Nat.le_of_ble_eq_true rfl) ⟨Nat.le_of_ble_eq_true rfl, Nat.le_of_ble_eq_true rfl⟩ ⟨Nat.le_of_ble_eq_true rfl, Nat.le_of_ble_eq_true rfl⟩ ?_
      refine r_ifeq (tgt := 51) C dX11_answer_39 (by decide) (fun c28 => ?_) (fun c28 => ?_)
      · rw [if_pos c28] at hf0
        refine r_subk [0] (lv' := [(0, .ref v0)]) rfl ?_
        exact J51 h v0 hf0
      · rw [if_neg c28] at hf0
        refine r_iload C dX11_answer_42 rfl ?_
        refine r_iconst (v := 4) C dX11_answer_44 (by decide) ?_
        obtain ⟨t29, e30, hf0⟩ := ob hf0
        refine r_cS (rest := []) (st2 := [.int t29]) C (s_X11_below e30) mk_X11_below sm_X11_below lk_X11_119 rfl rfl rfl dX11_answer_45 (Nat.le_of_ble_eq_true rfl) ⟨Nat.le_of_ble_eq_true rfl, Nat.le_of_ble_eq_true rfl⟩ ⟨Nat.le_of_ble_eq_true rfl, Nat.le_of_ble_eq_true rfl⟩ ?_
        refine r_ifne (tgt := 57) C dX11_answer_48 (by decide) (fun c31 => ?_) (fun c31 => ?_)
        · rw [if_neg c31] at hf0
          refine r_aload_n C dX11_answer_57 rfl ?_
          obtain ⟨t32, e33, hf0⟩ := ob hf0
          refine r_getR C fk_X11_74 rfl dX11_answer_58 e33 ?_
          refine r_iload_n C dX11_answer_61 rfl ?_
          obtain ⟨u35, e34, hf0⟩ := ob hf0
          obtain ⟨t36, e37, hf0⟩ := ob hf0
          refine r_cV (ci := 1) (rest := []) (st2 := [.int t36]) C (s_X1_canBe e37) mk_X1_canBe rfl (ck_k e34) (by decide) im_X1_canBe sl_X1_canBe lk_X11_239 rfl rfl rfl dX11_answer_62 (Nat.le_of_ble_eq_true rfl) ⟨Nat.le_of_ble_eq_true rfl, Nat.le_of_ble_eq_true rfl⟩ ⟨Nat.le_of_ble_eq_true rfl, Nat.le_of_ble_eq_true rfl⟩ ?_
          refine r_ifne (tgt := 75) C dX11_answer_65 (by decide) (fun c38 => ?_) (fun c38 => ?_)
          · rw [if_neg c38] at hf0
            refine r_aload_n C dX11_answer_75 rfl ?_
            refine r_aload_n C dX11_answer_76 rfl ?_
            obtain ⟨t39, e40, hf0⟩ := ob hf0
            refine r_getR C fk_X11_74 rfl dX11_answer_77 e40 ?_
            refine r_iload_n C dX11_answer_80 rfl ?_
            refine r_iload_n C dX11_answer_81 rfl ?_
            refine r_iload_n C dX11_answer_82 rfl ?_
            obtain ⟨u42, e41, hf0⟩ := ob hf0
            obtain ⟨t43, e44, hf0⟩ := ob hf0
            refine r_cV (ci := 1) (rest := [.ref v0]) (st2 := [.int t43, .ref v0]) C (s_X1_packedAnswers e44) mk_X1_packedAnswers rfl (ck_k e41) (by decide) im_X1_packedAnswers sl_X1_packedAnswers lk_X11_257 rfl rfl rfl dX11_answer_83 (Nat.le_of_ble_eq_true rfl) ⟨Nat.le_of_ble_eq_true rfl, Nat.le_of_ble_eq_true rfl⟩ ⟨Nat.le_of_ble_eq_true rfl, Nat.le_of_ble_eq_true rfl⟩ ?_
            refine r_iload C dX11_answer_86 rfl ?_
            obtain ⟨t45, e46, hf0⟩ := ob hf0
            refine r_cS (rest := [.ref v0]) (st2 := [.int t45, .ref v0]) C (s_X1_answerOf e46) mk_X1_answerOf sm_X1_answerOf lk_X11_261 rfl rfl rfl dX11_answer_88 (Nat.le_of_ble_eq_true rfl) ⟨Nat.le_of_ble_eq_true rfl, Nat.le_of_ble_eq_true rfl⟩ ⟨Nat.le_of_ble_eq_true rfl, Nat.le_of_ble_eq_true rfl⟩ ?_
            obtain ⟨u48, e47, hf0⟩ := ob hf0
            obtain ⟨t49, h50, e51, hf0⟩ := ob2 hf0
            refine r_cV (ci := 11) (rest := []) (st2 := [.int t49]) C (s_X11_give e51) mk_X11_give rfl (ck_k e47) (by decide) im_X11_give sl_X11_give lk_X11_179 rfl rfl rfl dX11_answer_91 (Nat.le_of_ble_eq_true rfl) ⟨Nat.le_of_ble_eq_true rfl, Nat.le_of_ble_eq_true rfl⟩ ⟨Nat.le_of_ble_eq_true rfl, Nat.le_of_ble_eq_true rfl⟩ ?_
            obtain rfl := so hf0
            exact r_iret C dX11_answer_94
          · rw [if_pos c38] at hf0
            refine r_aload_n C dX11_answer_68 rfl ?_
            refine r_bipush (v := 7) C dX11_answer_69 (by decide) ?_
            obtain ⟨u53, e52, hf0⟩ := ob hf0
            obtain ⟨t54, h55, e56, hf0⟩ := ob2 hf0
            refine r_cV (ci := 11) (rest := []) (st2 := [.int t54]) C (s_X11_refuse e56) mk_X11_refuse rfl (ck_k e52) (by decide) im_X11_refuse sl_X11_refuse lk_X11_142 rfl rfl rfl dX11_answer_71 (Nat.le_of_ble_eq_true rfl) ⟨Nat.le_of_ble_eq_true rfl, Nat.le_of_ble_eq_true rfl⟩ ⟨Nat.le_of_ble_eq_true rfl, Nat.le_of_ble_eq_true rfl⟩ ?_
            obtain rfl := so hf0
            exact r_iret C dX11_answer_74
        · rw [if_pos c31] at hf0
          refine r_subk [0] (lv' := [(0, .ref v0)]) rfl ?_
          exact J51 h v0 hf0
def f_X11_hear_j44 (h : aH) (v0 : Nat) : Option (Int32 × aH) := (ck h 11 v0).bind fun _ => bd2 (f_X11_deny h v0 (1 : Int32)) fun t1 h2 => (rZ t1).bind fun t3 => some (t3, h2)
def f_X11_hear (h : aH) (v0 : Nat) (v1 : Int32) (v2 : Int32) (v3 : Int32) : Option (Int32 × aH) := (gR h 11 v0 11).bind fun t4 => (gI h 1 t4 17).bind fun t5 => (f_X11_below h v1 t5).bind fun t6 => if t6 = 0 then f_X11_hear_j44 h v0 else (gR h 11 v0 11).bind fun t7 => (gI h 1 t7 16).bind fun t8 => (f_X11_below h v2 t8).bind fun t9 => if t9 = 0 then f_X11_hear_j44 h v0 else (gR h 11 v0 11).bind fun t10 => (gI h 1 t10 16).bind fun t11 => (f_X11_below h v3 ((2 : Int32) * t11)).bind fun t12 => if t12 = 0 then f_X11_hear_j44 h v0 else (gR h 11 v0 6).bind fun t13 => (gR h 3 t13 0).bind fun t14 => (ck h 6 t14).bind fun _ => (f_X6_putToday h t14).bind fun t15 => if t15 < (9 : Int32) then (gR h 11 v0 6).bind fun t16 => (ck h 3 t16).bind fun _ => (f_X3_wasPut h t16 v2).bind fun t17 => if t17 = 0 then (gR h 11 v0 6).bind fun t18 => (ck h 3 t18).bind fun _ => (f_X3_enter h t18 v1 v2 v3).bind fun h19 => (ck h19 11 v0).bind fun _ => bd2 (f_X11_grant h19 v0) fun t20 h21 => (rZ t20).bind fun t22 => some (t22, h21) else (ck h 11 v0).bind fun _ => bd2 (f_X11_deny h v0 (7 : Int32)) fun t23 h24 => (rZ t23).bind fun t25 => some (t25, h24) else (ck h 11 v0).bind fun _ => bd2 (f_X11_deny h v0 (4 : Int32)) fun t26 h27 => (rZ t26).bind fun t28 => some (t28, h27)
theorem s_X11_hear {h : aH} {v0 : Nat} {v1 : Int32} {v2 : Int32} {v3 : Int32} {out : Int32 × aH} (hf0 : f_X11_hear h v0 v1 v2 v3 = some out) : EV 4 yX11_hear cX11_hear 4 (some .boolean) h [.ref v0, .int v1, .int v2, .int v3] (some (.int out.1)) out.2 0 0 := by
  refine EV.of (own := RX11) (lv0 := [(0, .ref v0), (1, .int v1), (2, .int v2), (3, .int v3)]) (by decide +kernel) rfl rfl (Nat.le_of_ble_eq_true rfl) ?_
  intro p l e s m args below meth c D cA B Hb C hin
  unfold f_X11_hear at hf0
  have J44 : ∀ (h1 : aH) (t2 : Nat), f_X11_hear_j44 h1 t2 = some out → gW p l e (rmO 4 0 0) s m args below meth c (MQ below (eQ D cA B Hb out.2 (some (.int out.1))) args s 0 0 (fun q => B ≤ q)) D cA B Hb 4 h1 44 [(0, .ref t2)] [] 0 0 := by
    intro h1 t2 hf0
    unfold f_X11_hear_j44 at hf0
    refine r_aload_n C dX11_hear_44 rfl ?_
    refine r_iconst (v := 1) C dX11_hear_45 (by decide) ?_
    obtain ⟨u4, e3, hf0⟩ := ob hf0
    obtain ⟨t5, h6, e7, hf0⟩ := ob2 hf0
    refine r_cV (ci := 11) (rest := []) (st2 := [.int t5]) C (s_X11_deny e7) mk_X11_deny rfl (ck_k e3) (by decide) im_X11_deny sl_X11_deny lk_X11_123 rfl rfl rfl dX11_hear_46 (Nat.le_of_ble_eq_true rfl) ⟨Nat.le_of_ble_eq_true rfl, Nat.le_of_ble_eq_true rfl⟩ ⟨Nat.le_of_ble_eq_true rfl, Nat.le_of_ble_eq_true rfl⟩ ?_
    obtain ⟨t8, e9, hf0⟩ := ob hf0
    obtain ⟨rfl, e9z⟩ := rZ_k e9
    obtain rfl := so hf0
    exact r_zret C dX11_hear_49 e9z
  refine r_iload_n C dX11_hear_0 rfl ?_
  refine r_aload_n C dX11_hear_1 rfl ?_
  obtain ⟨t10, e11, hf0⟩ := ob hf0
  refine r_getR C fk_X11_74 rfl dX11_hear_2 e11 ?_
  obtain ⟨t12, e13, hf0⟩ := ob hf0
  refine r_getI C fk_X11_211 rfl dX11_hear_5 e13 ?_
  obtain ⟨t14, e15, hf0⟩ := ob hf0
  refine r_cS (rest := []) (st2 := [.int t14]) C (s_X11_below e15) mk_X11_below sm_X11_below lk_X11_119 rfl rfl rfl dX11_hear_8 (Nat.le_of_ble_eq_true rfl) ⟨Nat.le_of_ble_eq_true rfl, Nat.le_of_ble_eq_true rfl⟩ ⟨Nat.le_of_ble_eq_true rfl, Nat.le_of_ble_eq_true rfl⟩ ?_
  refine r_ifeq (tgt := 44) C dX11_hear_11 (by decide) (fun c16 => ?_) (fun c16 => ?_)
  · rw [if_pos c16] at hf0
    refine r_subk [0] (lv' := [(0, .ref v0)]) rfl ?_
    exact J44 h v0 hf0
  · rw [if_neg c16] at hf0
    refine r_iload_n C dX11_hear_14 rfl ?_
    refine r_aload_n C dX11_hear_15 rfl ?_
    obtain ⟨t17, e18, hf0⟩ := ob hf0
    refine r_getR C fk_X11_74 rfl dX11_hear_16 e18 ?_
    obtain ⟨t19, e20, hf0⟩ := ob hf0
    refine r_getI C fk_X11_208 rfl dX11_hear_19 e20 ?_
    obtain ⟨t21, e22, hf0⟩ := ob hf0
    refine r_cS (rest := []) (st2 := [.int t21]) C (s_X11_below e22) mk_X11_below sm_X11_below lk_X11_119 rfl rfl rfl dX11_hear_22 (Nat.le_of_ble_eq_true rfl) ⟨Nat.le_of_ble_eq_true rfl, Nat.le_of_ble_eq_true rfl⟩ ⟨Nat.le_of_ble_eq_true rfl, Nat.le_of_ble_eq_true rfl⟩ ?_
    refine r_ifeq (tgt := 44) C dX11_hear_25 (by decide) (fun c23 => ?_) (fun c23 => ?_)
    · rw [if_pos c23] at hf0
      refine r_subk [0] (lv' := [(0, .ref v0)]) rfl ?_
      exact J44 h v0 hf0
    · rw [if_neg c23] at hf0
      refine r_iload_n C dX11_hear_28 rfl ?_
      refine r_iconst (v := 2) C dX11_hear_29 (by decide) ?_
      refine r_aload_n C dX11_hear_30 rfl ?_
      obtain ⟨t24, e25, hf0⟩ := ob hf0
      refine r_getR C fk_X11_74 rfl dX11_hear_31 e25 ?_
      obtain ⟨t26, e27, hf0⟩ := ob hf0
      refine r_getI C fk_X11_208 rfl dX11_hear_34 e27 ?_
      refine r_imul C dX11_hear_37 ?_
      obtain ⟨t28, e29, hf0⟩ := ob hf0
      refine r_cS (rest := []) (st2 := [.int t28]) C (s_X11_below e29) mk_X11_below sm_X11_below lk_X11_119 rfl rfl rfl dX11_hear_38 (Nat.le_of_ble_eq_true rfl) ⟨Nat.le_of_ble_eq_true rfl, Nat.le_of_ble_eq_true rfl⟩ ⟨Nat.le_of_ble_eq_true rfl, Nat.le_of_ble_eq_true rfl⟩ ?_
      refine r_ifne (tgt := 50) C dX11_hear_41 (by decide) (fun c30 => ?_) (fun c30 => ?_)
      · rw [if_neg c30] at hf0
        refine r_aload_n C dX11_hear_50 rfl ?_
        obtain ⟨t31, e32, hf0⟩ := ob hf0
        refine r_getR C fk_X11_92 rfl dX11_hear_51 e32 ?_
        obtain ⟨t33, e34, hf0⟩ := ob hf0
        refine r_getR C fk_X11_214 rfl dX11_hear_54 e34 ?_
        obtain ⟨u36, e35, hf0⟩ := ob hf0
        obtain ⟨t37, e38, hf0⟩ := ob hf0
        refine r_cV (ci := 6) (rest := []) (st2 := [.int t37]) C (s_X6_putToday e38) mk_X6_putToday rfl (ck_k e35) (by decide) im_X6_putToday sl_X6_putToday lk_X11_226 rfl rfl rfl dX11_hear_57 (Nat.le_of_ble_eq_true rfl) ⟨Nat.le_of_ble_eq_true rfl, Nat.le_of_ble_eq_true rfl⟩ ⟨Nat.le_of_ble_eq_true rfl, Nat.le_of_ble_eq_true rfl⟩ ?_
        refine r_bipush (v := 9) C dX11_hear_60 (by decide) ?_
        refine r_icmp_lt (tgt := 71) C dX11_hear_62 (by decide) (fun c39 => ?_) (fun c39 => ?_)
        · rw [if_pos c39] at hf0
          refine r_aload_n C dX11_hear_71 rfl ?_
          obtain ⟨t40, e41, hf0⟩ := ob hf0
          refine r_getR C fk_X11_92 rfl dX11_hear_72 e41 ?_
          refine r_iload_n C dX11_hear_75 rfl ?_
          obtain ⟨u43, e42, hf0⟩ := ob hf0
          obtain ⟨t44, e45, hf0⟩ := ob hf0
          refine r_cV (ci := 3) (rest := []) (st2 := [.int t44]) C (s_X3_wasPut e45) mk_X3_wasPut rfl (ck_k e42) (by decide) im_X3_wasPut sl_X3_wasPut lk_X11_270 rfl rfl rfl dX11_hear_76 (Nat.le_of_ble_eq_true rfl) ⟨Nat.le_of_ble_eq_true rfl, Nat.le_of_ble_eq_true rfl⟩ ⟨Nat.le_of_ble_eq_true rfl, Nat.le_of_ble_eq_true rfl⟩ ?_
          refine r_ifeq (tgt := 89) C dX11_hear_79 (by decide) (fun c46 => ?_) (fun c46 => ?_)
          · rw [if_pos c46] at hf0
            refine r_aload_n C dX11_hear_89 rfl ?_
            obtain ⟨t47, e48, hf0⟩ := ob hf0
            refine r_getR C fk_X11_92 rfl dX11_hear_90 e48 ?_
            refine r_iload_n C dX11_hear_93 rfl ?_
            refine r_iload_n C dX11_hear_94 rfl ?_
            refine r_iload_n C dX11_hear_95 rfl ?_
            obtain ⟨u50, e49, hf0⟩ := ob hf0
            obtain ⟨h51, e52, hf0⟩ := ob hf0
            refine r_cV (ci := 3) (rest := []) (st2 := []) C (s_X3_enter e52) mk_X3_enter rfl (ck_k e49) (by decide) im_X3_enter sl_X3_enter lk_X11_273 rfl rfl rfl dX11_hear_96 (Nat.le_of_ble_eq_true rfl) ⟨Nat.le_of_ble_eq_true rfl, Nat.le_of_ble_eq_true rfl⟩ ⟨Nat.le_of_ble_eq_true rfl, Nat.le_of_ble_eq_true rfl⟩ ?_
            refine r_aload_n C dX11_hear_99 rfl ?_
            obtain ⟨u54, e53, hf0⟩ := ob hf0
            obtain ⟨t55, h56, e57, hf0⟩ := ob2 hf0
            refine r_cV (ci := 11) (rest := []) (st2 := [.int t55]) C (s_X11_grant e57) mk_X11_grant rfl (ck_k e53) (by decide) im_X11_grant sl_X11_grant lk_X11_130 rfl rfl rfl dX11_hear_100 (Nat.le_of_ble_eq_true rfl) ⟨Nat.le_of_ble_eq_true rfl, Nat.le_of_ble_eq_true rfl⟩ ⟨Nat.le_of_ble_eq_true rfl, Nat.le_of_ble_eq_true rfl⟩ ?_
            obtain ⟨t58, e59, hf0⟩ := ob hf0
            obtain ⟨rfl, e59z⟩ := rZ_k e59
            obtain rfl := so hf0
            exact r_zret C dX11_hear_103 e59z
          · rw [if_neg c46] at hf0
            refine r_aload_n C dX11_hear_82 rfl ?_
            refine r_bipush (v := 7) C dX11_hear_83 (by decide) ?_
            obtain ⟨u61, e60, hf0⟩ := ob hf0
            obtain ⟨t62, h63, e64, hf0⟩ := ob2 hf0
            refine r_cV (ci := 11) (rest := []) (st2 := [.int t62]) C (s_X11_deny e64) mk_X11_deny rfl (ck_k e60) (by decide) im_X11_deny sl_X11_deny lk_X11_123 rfl rfl rfl dX11_hear_85 (Nat.le_of_ble_eq_true rfl) ⟨Nat.le_of_ble_eq_true rfl, Nat.le_of_ble_eq_true rfl⟩ ⟨Nat.le_of_ble_eq_true rfl, Nat.le_of_ble_eq_true rfl⟩ ?_
            obtain ⟨t65, e66, hf0⟩ := ob hf0
            obtain ⟨rfl, e66z⟩ := rZ_k e66
            obtain rfl := so hf0
            exact r_zret C dX11_hear_88 e66z
        · rw [if_neg c39] at hf0
          refine r_aload_n C dX11_hear_65 rfl ?_
          refine r_iconst (v := 4) C dX11_hear_66 (by decide) ?_
          obtain ⟨u68, e67, hf0⟩ := ob hf0
          obtain ⟨t69, h70, e71, hf0⟩ := ob2 hf0
          refine r_cV (ci := 11) (rest := []) (st2 := [.int t69]) C (s_X11_deny e71) mk_X11_deny rfl (ck_k e67) (by decide) im_X11_deny sl_X11_deny lk_X11_123 rfl rfl rfl dX11_hear_67 (Nat.le_of_ble_eq_true rfl) ⟨Nat.le_of_ble_eq_true rfl, Nat.le_of_ble_eq_true rfl⟩ ⟨Nat.le_of_ble_eq_true rfl, Nat.le_of_ble_eq_true rfl⟩ ?_
          obtain ⟨t72, e73, hf0⟩ := ob hf0
          obtain ⟨rfl, e73z⟩ := rZ_k e73
          obtain rfl := so hf0
          exact r_zret C dX11_hear_70 e73z
      · rw [if_pos c30] at hf0
        refine r_subk [0] (lv' := [(0, .ref v0)]) rfl ?_
        exact J44 h v0 hf0
def f_X11_unsay (h : aH) (v0 : Nat) : Option (Int32 × aH) := (gR h 11 v0 6).bind fun t1 => (gR h 3 t1 0).bind fun t2 => (gI h 6 t2 4).bind fun t3 => if t3 = 0 then (ck h 11 v0).bind fun _ => bd2 (f_X11_refuse h v0 (6 : Int32)) fun t11 h12 => some (t11, h12) else (gR h 11 v0 6).bind fun t4 => (ck h 3 t4).bind fun _ => (f_X3_strike h t4).bind fun h5 => (gR h5 11 v0 6).bind fun t6 => (gR h5 3 t6 0).bind fun t7 => (gI h5 6 t7 4).bind fun t8 => (ck h5 11 v0).bind fun _ => bd2 (f_X11_give h5 v0 t8) fun t9 h10 => some (t9, h10)
theorem s_X11_unsay {h : aH} {v0 : Nat} {out : Int32 × aH} (hf0 : f_X11_unsay h v0 = some out) : EV 5 yX11_unsay cX11_unsay 1 (some .int) h [.ref v0] (some (.int out.1)) out.2 0 0 := by
  refine EV.of (own := RX11) (lv0 := [(0, .ref v0)]) (by decide +kernel) rfl rfl (Nat.le_of_ble_eq_true rfl) ?_
  intro p l e s m args below meth c D cA B Hb C hin
  unfold f_X11_unsay at hf0
  refine r_aload_n C dX11_unsay_0 rfl ?_
  obtain ⟨t1, e2, hf0⟩ := ob hf0
  refine r_getR C fk_X11_92 rfl dX11_unsay_1 e2 ?_
  obtain ⟨t3, e4, hf0⟩ := ob hf0
  refine r_getR C fk_X11_214 rfl dX11_unsay_4 e4 ?_
  obtain ⟨t5, e6, hf0⟩ := ob hf0
  refine r_getI C fk_X11_223 rfl dX11_unsay_7 e6 ?_
  refine r_ifne (tgt := 20) C dX11_unsay_10 (by decide) (fun c7 => ?_) (fun c7 => ?_)
  · rw [if_neg c7] at hf0
    refine r_aload_n C dX11_unsay_20 rfl ?_
    obtain ⟨t8, e9, hf0⟩ := ob hf0
    refine r_getR C fk_X11_92 rfl dX11_unsay_21 e9 ?_
    obtain ⟨u11, e10, hf0⟩ := ob hf0
    obtain ⟨h12, e13, hf0⟩ := ob hf0
    refine r_cV (ci := 3) (rest := []) (st2 := []) C (s_X3_strike e13) mk_X3_strike rfl (ck_k e10) (by decide) im_X3_strike sl_X3_strike lk_X11_277 rfl rfl rfl dX11_unsay_24 (Nat.le_of_ble_eq_true rfl) ⟨Nat.le_of_ble_eq_true rfl, Nat.le_of_ble_eq_true rfl⟩ ⟨Nat.le_of_ble_eq_true rfl, Nat.le_of_ble_eq_true rfl⟩ ?_
    refine r_aload_n C dX11_unsay_27 rfl ?_
    refine r_aload_n C dX11_unsay_28 rfl ?_
    obtain ⟨t14, e15, hf0⟩ := ob hf0
    refine r_getR C fk_X11_92 rfl dX11_unsay_29 e15 ?_
    obtain ⟨t16, e17, hf0⟩ := ob hf0
    refine r_getR C fk_X11_214 rfl dX11_unsay_32 e17 ?_
    obtain ⟨t18, e19, hf0⟩ := ob hf0
    refine r_getI C fk_X11_223 rfl dX11_unsay_35 e19 ?_
    obtain ⟨u21, e20, hf0⟩ := ob hf0
    obtain ⟨t22, h23, e24, hf0⟩ := ob2 hf0
    refine r_cV (ci := 11) (rest := []) (st2 := [.int t22]) C (s_X11_give e24) mk_X11_give rfl (ck_k e20) (by decide) im_X11_give sl_X11_give lk_X11_179 rfl rfl rfl dX11_unsay_38 (Nat.le_of_ble_eq_true rfl) ⟨Nat.le_of_ble_eq_true rfl, Nat.le_of_ble_eq_true rfl⟩ ⟨Nat.le_of_ble_eq_true rfl, Nat.le_of_ble_eq_true rfl⟩ ?_
    obtain rfl := so hf0
    exact r_iret C dX11_unsay_41
  · rw [if_pos c7] at hf0
    refine r_aload_n C dX11_unsay_13 rfl ?_
    refine r_bipush (v := 6) C dX11_unsay_14 (by decide) ?_
    obtain ⟨u26, e25, hf0⟩ := ob hf0
    obtain ⟨t27, h28, e29, hf0⟩ := ob2 hf0
    refine r_cV (ci := 11) (rest := []) (st2 := [.int t27]) C (s_X11_refuse e29) mk_X11_refuse rfl (ck_k e25) (by decide) im_X11_refuse sl_X11_refuse lk_X11_142 rfl rfl rfl dX11_unsay_16 (Nat.le_of_ble_eq_true rfl) ⟨Nat.le_of_ble_eq_true rfl, Nat.le_of_ble_eq_true rfl⟩ ⟨Nat.le_of_ble_eq_true rfl, Nat.le_of_ble_eq_true rfl⟩ ?_
    obtain rfl := so hf0
    exact r_iret C dX11_unsay_19
def f_X11_nextDay (h : aH) (v0 : Nat) : Option (Int32 × aH) := (gR h 11 v0 6).bind fun t1 => (gR h 3 t1 0).bind fun t2 => (gI h 6 t2 5).bind fun t3 => if t3 < (99 : Int32) then (gR h 11 v0 6).bind fun t4 => (gR h 3 t4 0).bind fun t5 => (gI h 6 t5 5).bind fun t6 => (pI h 6 t5 5 (t6 + (1 : Int32))).bind fun h7 => (gR h7 11 v0 6).bind fun t8 => (gR h7 3 t8 0).bind fun t9 => (gI h7 6 t9 5).bind fun t10 => (ck h7 11 v0).bind fun _ => bd2 (f_X11_give h7 v0 t10) fun t11 h12 => some (t11, h12) else (ck h 11 v0).bind fun _ => bd2 (f_X11_refuse h v0 (4 : Int32)) fun t13 h14 => some (t13, h14)
theorem s_X11_nextDay {h : aH} {v0 : Nat} {out : Int32 × aH} (hf0 : f_X11_nextDay h v0 = some out) : EV 1 yX11_nextDay cX11_nextDay 1 (some .int) h [.ref v0] (some (.int out.1)) out.2 0 0 := by
  refine EV.of (own := RX11) (lv0 := [(0, .ref v0)]) (by decide +kernel) rfl rfl (Nat.le_of_ble_eq_true rfl) ?_
  intro p l e s m args below meth c D cA B Hb C hin
  unfold f_X11_nextDay at hf0
  refine r_aload_n C dX11_nextDay_0 rfl ?_
  obtain ⟨t1, e2, hf0⟩ := ob hf0
  refine r_getR C fk_X11_92 rfl dX11_nextDay_1 e2 ?_
  obtain ⟨t3, e4, hf0⟩ := ob hf0
  refine r_getR C fk_X11_214 rfl dX11_nextDay_4 e4 ?_
  obtain ⟨t5, e6, hf0⟩ := ob hf0
  refine r_getI C fk_X11_218 rfl dX11_nextDay_7 e6 ?_
  refine r_bipush (v := 99) C dX11_nextDay_10 (by decide) ?_
  refine r_icmp_lt (tgt := 21) C dX11_nextDay_12 (by decide) (fun c7 => ?_) (fun c7 => ?_)
  · rw [if_pos c7] at hf0
    refine r_aload_n C dX11_nextDay_21 rfl ?_
    obtain ⟨t8, e9, hf0⟩ := ob hf0
    refine r_getR C fk_X11_92 rfl dX11_nextDay_22 e9 ?_
    obtain ⟨t10, e11, hf0⟩ := ob hf0
    refine r_getR C fk_X11_214 rfl dX11_nextDay_25 e11 ?_
    refine r_dup C dX11_nextDay_28 rfl ?_
    obtain ⟨t12, e13, hf0⟩ := ob hf0
    refine r_getI C fk_X11_218 rfl dX11_nextDay_29 e13 ?_
    refine r_iconst (v := 1) C dX11_nextDay_32 (by decide) ?_
    refine r_iadd C dX11_nextDay_33 ?_
    obtain ⟨h14, e15, hf0⟩ := ob hf0
    refine r_putI C fk_X11_218 dX11_nextDay_34 e15 ?_
    refine r_aload_n C dX11_nextDay_37 rfl ?_
    refine r_aload_n C dX11_nextDay_38 rfl ?_
    obtain ⟨t16, e17, hf0⟩ := ob hf0
    refine r_getR C fk_X11_92 rfl dX11_nextDay_39 e17 ?_
    obtain ⟨t18, e19, hf0⟩ := ob hf0
    refine r_getR C fk_X11_214 rfl dX11_nextDay_42 e19 ?_
    obtain ⟨t20, e21, hf0⟩ := ob hf0
    refine r_getI C fk_X11_218 rfl dX11_nextDay_45 e21 ?_
    obtain ⟨u23, e22, hf0⟩ := ob hf0
    obtain ⟨t24, h25, e26, hf0⟩ := ob2 hf0
    refine r_cV (ci := 11) (rest := []) (st2 := [.int t24]) C (s_X11_give e26) mk_X11_give rfl (ck_k e22) (by decide) im_X11_give sl_X11_give lk_X11_179 rfl rfl rfl dX11_nextDay_48 (Nat.le_of_ble_eq_true rfl) ⟨Nat.le_of_ble_eq_true rfl, Nat.le_of_ble_eq_true rfl⟩ ⟨Nat.le_of_ble_eq_true rfl, Nat.le_of_ble_eq_true rfl⟩ ?_
    obtain rfl := so hf0
    exact r_iret C dX11_nextDay_51
  · rw [if_neg c7] at hf0
    refine r_aload_n C dX11_nextDay_15 rfl ?_
    refine r_iconst (v := 4) C dX11_nextDay_16 (by decide) ?_
    obtain ⟨u28, e27, hf0⟩ := ob hf0
    obtain ⟨t29, h30, e31, hf0⟩ := ob2 hf0
    refine r_cV (ci := 11) (rest := []) (st2 := [.int t29]) C (s_X11_refuse e31) mk_X11_refuse rfl (ck_k e27) (by decide) im_X11_refuse sl_X11_refuse lk_X11_142 rfl rfl rfl dX11_nextDay_17 (Nat.le_of_ble_eq_true rfl) ⟨Nat.le_of_ble_eq_true rfl, Nat.le_of_ble_eq_true rfl⟩ ⟨Nat.le_of_ble_eq_true rfl, Nat.le_of_ble_eq_true rfl⟩ ?_
    obtain rfl := so hf0
    exact r_iret C dX11_nextDay_20
def f_X11_heard (h : aH) (v0 : Nat) (v1 : Int32) (v2 : Int32) : Option (Int32 × aH) := (f_X11_below h v2 (4 : Int32)).bind fun t1 => if t1 = 0 then (ck h 11 v0).bind fun _ => bd2 (f_X11_refuse h v0 (1 : Int32)) fun t32 h33 => some (t32, h33) else (gR h 11 v0 6).bind fun t2 => (gR h 3 t2 0).bind fun t3 => (gI h 6 t3 4).bind fun t4 => (f_X11_below h v1 t4).bind fun t5 => if t5 = 0 then (ck h 11 v0).bind fun _ => bd2 (f_X11_refuse h v0 (6 : Int32)) fun t30 h31 => some (t30, h31) else if v2 = (0 : Int32) then (gR h 11 v0 6).bind fun t24 => (gR h 3 t24 0).bind fun t25 => (gR h 6 t25 0).bind fun t26 => (lI h t26 v1).bind fun t27 => (ck h 11 v0).bind fun _ => bd2 (f_X11_give h v0 t27) fun t28 h29 => some (t28, h29) else if v2 = (1 : Int32) then (gR h 11 v0 6).bind fun t18 => (gR h 3 t18 0).bind fun t19 => (gR h 6 t19 1).bind fun t20 => (lI h t20 v1).bind fun t21 => (ck h 11 v0).bind fun _ => bd2 (f_X11_give h v0 t21) fun t22 h23 => some (t22, h23) else if v2 = (2 : Int32) then (gR h 11 v0 6).bind fun t12 => (gR h 3 t12 0).bind fun t13 => (gR h 6 t13 2).bind fun t14 => (lI h t14 v1).bind fun t15 => (ck h 11 v0).bind fun _ => bd2 (f_X11_give h v0 t15) fun t16 h17 => some (t16, h17) else (gR h 11 v0 6).bind fun t6 => (gR h 3 t6 0).bind fun t7 => (gR h 6 t7 3).bind fun t8 => (lI h t8 v1).bind fun t9 => (ck h 11 v0).bind fun _ => bd2 (f_X11_give h v0 t9) fun t10 h11 => some (t10, h11)
theorem s_X11_heard {h : aH} {v0 : Nat} {v1 : Int32} {v2 : Int32} {out : Int32 × aH} (hf0 : f_X11_heard h v0 v1 v2 = some out) : EV 1 yX11_heard cX11_heard 3 (some .int) h [.ref v0, .int v1, .int v2] (some (.int out.1)) out.2 0 0 := by
  refine EV.of (own := RX11) (lv0 := [(0, .ref v0), (1, .int v1), (2, .int v2)]) (by decide +kernel) rfl rfl (Nat.le_of_ble_eq_true rfl) ?_
  intro p l e s m args below meth c D cA B Hb C hin
  unfold f_X11_heard at hf0
  refine r_iload_n C dX11_heard_0 rfl ?_
  refine r_iconst (v := 4) C dX11_heard_1 (by decide) ?_
  obtain ⟨t1, e2, hf0⟩ := ob hf0
  refine r_cS (rest := []) (st2 := [.int t1]) C (s_X11_below e2) mk_X11_below sm_X11_below lk_X11_119 rfl rfl rfl dX11_heard_2 (Nat.le_of_ble_eq_true rfl) ⟨Nat.le_of_ble_eq_true rfl, Nat.le_of_ble_eq_true rfl⟩ ⟨Nat.le_of_ble_eq_true rfl, Nat.le_of_ble_eq_true rfl⟩ ?_
  refine r_ifne (tgt := 14) C dX11_heard_5 (by decide) (fun c3 => ?_) (fun c3 => ?_)
  · rw [if_neg c3] at hf0
    refine r_iload_n C dX11_heard_14 rfl ?_
    refine r_aload_n C dX11_heard_15 rfl ?_
    obtain ⟨t4, e5, hf0⟩ := ob hf0
    refine r_getR C fk_X11_92 rfl dX11_heard_16 e5 ?_
    obtain ⟨t6, e7, hf0⟩ := ob hf0
    refine r_getR C fk_X11_214 rfl dX11_heard_19 e7 ?_
    obtain ⟨t8, e9, hf0⟩ := ob hf0
    refine r_getI C fk_X11_223 rfl dX11_heard_22 e9 ?_
    obtain ⟨t10, e11, hf0⟩ := ob hf0
    refine r_cS (rest := []) (st2 := [.int t10]) C (s_X11_below e11) mk_X11_below sm_X11_below lk_X11_119 rfl rfl rfl dX11_heard_25 (Nat.le_of_ble_eq_true rfl) ⟨Nat.le_of_ble_eq_true rfl, Nat.le_of_ble_eq_true rfl⟩ ⟨Nat.le_of_ble_eq_true rfl, Nat.le_of_ble_eq_true rfl⟩ ?_
    refine r_ifne (tgt := 38) C dX11_heard_28 (by decide) (fun c12 => ?_) (fun c12 => ?_)
    · rw [if_neg c12] at hf0
      refine r_iload_n C dX11_heard_38 rfl ?_
      by_cases c13 : v2 = (0 : Int32)
      · rw [if_pos c13] at hf0
        refine r_tabIn (k := 0) (off := 25) (tgt := 64) C dX11_heard_39 c13 (by decide) (by decide) (by decide) (by decide) ?_
        refine r_aload_n C dX11_heard_64 rfl ?_
        refine r_aload_n C dX11_heard_65 rfl ?_
        obtain ⟨t14, e15, hf0⟩ := ob hf0
        refine r_getR C fk_X11_92 rfl dX11_heard_66 e15 ?_
        obtain ⟨t16, e17, hf0⟩ := ob hf0
        refine r_getR C fk_X11_214 rfl dX11_heard_69 e17 ?_
        obtain ⟨t18, e19, hf0⟩ := ob hf0
        refine r_getR C fk_X11_280 rfl dX11_heard_72 e19 ?_
        refine r_iload_n C dX11_heard_75 rfl ?_
        obtain ⟨t20, e21, hf0⟩ := ob hf0
        refine r_ldI C dX11_heard_76 e21 ?_
        obtain ⟨u23, e22, hf0⟩ := ob hf0
        obtain ⟨t24, h25, e26, hf0⟩ := ob2 hf0
        refine r_cV (ci := 11) (rest := []) (st2 := [.int t24]) C (s_X11_give e26) mk_X11_give rfl (ck_k e22) (by decide) im_X11_give sl_X11_give lk_X11_179 rfl rfl rfl dX11_heard_77 (Nat.le_of_ble_eq_true rfl) ⟨Nat.le_of_ble_eq_true rfl, Nat.le_of_ble_eq_true rfl⟩ ⟨Nat.le_of_ble_eq_true rfl, Nat.le_of_ble_eq_true rfl⟩ ?_
        obtain rfl := so hf0
        exact r_iret C dX11_heard_80
      · rw [if_neg c13] at hf0
        by_cases c27 : v2 = (1 : Int32)
        · rw [if_pos c27] at hf0
          refine r_tabIn (k := 1) (off := 42) (tgt := 81) C dX11_heard_39 c27 (by decide) (by decide) (by decide) (by decide) ?_
          refine r_aload_n C dX11_heard_81 rfl ?_
          refine r_aload_n C dX11_heard_82 rfl ?_
          obtain ⟨t28, e29, hf0⟩ := ob hf0
          refine r_getR C fk_X11_92 rfl dX11_heard_83 e29 ?_
          obtain ⟨t30, e31, hf0⟩ := ob hf0
          refine r_getR C fk_X11_214 rfl dX11_heard_86 e31 ?_
          obtain ⟨t32, e33, hf0⟩ := ob hf0
          refine r_getR C fk_X11_283 rfl dX11_heard_89 e33 ?_
          refine r_iload_n C dX11_heard_92 rfl ?_
          obtain ⟨t34, e35, hf0⟩ := ob hf0
          refine r_ldI C dX11_heard_93 e35 ?_
          obtain ⟨u37, e36, hf0⟩ := ob hf0
          obtain ⟨t38, h39, e40, hf0⟩ := ob2 hf0
          refine r_cV (ci := 11) (rest := []) (st2 := [.int t38]) C (s_X11_give e40) mk_X11_give rfl (ck_k e36) (by decide) im_X11_give sl_X11_give lk_X11_179 rfl rfl rfl dX11_heard_94 (Nat.le_of_ble_eq_true rfl) ⟨Nat.le_of_ble_eq_true rfl, Nat.le_of_ble_eq_true rfl⟩ ⟨Nat.le_of_ble_eq_true rfl, Nat.le_of_ble_eq_true rfl⟩ ?_
          obtain rfl := so hf0
          exact r_iret C dX11_heard_97
        · rw [if_neg c27] at hf0
          by_cases c41 : v2 = (2 : Int32)
          · rw [if_pos c41] at hf0
            refine r_tabIn (k := 2) (off := 59) (tgt := 98) C dX11_heard_39 c41 (by decide) (by decide) (by decide) (by decide) ?_
            refine r_aload_n C dX11_heard_98 rfl ?_
            refine r_aload_n C dX11_heard_99 rfl ?_
            obtain ⟨t42, e43, hf0⟩ := ob hf0
            refine r_getR C fk_X11_92 rfl dX11_heard_100 e43 ?_
            obtain ⟨t44, e45, hf0⟩ := ob hf0
            refine r_getR C fk_X11_214 rfl dX11_heard_103 e45 ?_
            obtain ⟨t46, e47, hf0⟩ := ob hf0
            refine r_getR C fk_X11_286 rfl dX11_heard_106 e47 ?_
            refine r_iload_n C dX11_heard_109 rfl ?_
            obtain ⟨t48, e49, hf0⟩ := ob hf0
            refine r_ldI C dX11_heard_110 e49 ?_
            obtain ⟨u51, e50, hf0⟩ := ob hf0
            obtain ⟨t52, h53, e54, hf0⟩ := ob2 hf0
            refine r_cV (ci := 11) (rest := []) (st2 := [.int t52]) C (s_X11_give e54) mk_X11_give rfl (ck_k e50) (by decide) im_X11_give sl_X11_give lk_X11_179 rfl rfl rfl dX11_heard_111 (Nat.le_of_ble_eq_true rfl) ⟨Nat.le_of_ble_eq_true rfl, Nat.le_of_ble_eq_true rfl⟩ ⟨Nat.le_of_ble_eq_true rfl, Nat.le_of_ble_eq_true rfl⟩ ?_
            obtain rfl := so hf0
            exact r_iret C dX11_heard_114
          · rw [if_neg c41] at hf0
            refine r_tabOut (tgt := 115) C dX11_heard_39 (tsw (fun j j1 j2 => ?_)) (by decide) ?_
            · rcases (show j = 0 ∨ j = 1 ∨ j = 2 by omega) with rfl | rfl | rfl
              · exact tsw_ne c13
              · exact tsw_ne c27
              · exact tsw_ne c41
            · refine r_aload_n C dX11_heard_115 rfl ?_
              refine r_aload_n C dX11_heard_116 rfl ?_
              obtain ⟨t55, e56, hf0⟩ := ob hf0
              refine r_getR C fk_X11_92 rfl dX11_heard_117 e56 ?_
              obtain ⟨t57, e58, hf0⟩ := ob hf0
              refine r_getR C fk_X11_214 rfl dX11_heard_120 e58 ?_
              obtain ⟨t59, e60, hf0⟩ := ob hf0
              refine r_getR C fk_X11_289 rfl dX11_heard_123 e60 ?_
              refine r_iload_n C dX11_heard_126 rfl ?_
              obtain ⟨t61, e62, hf0⟩ := ob hf0
              refine r_ldI C dX11_heard_127 e62 ?_
              obtain ⟨u64, e63, hf0⟩ := ob hf0
              obtain ⟨t65, h66, e67, hf0⟩ := ob2 hf0
              refine r_cV (ci := 11) (rest := []) (st2 := [.int t65]) C (s_X11_give e67) mk_X11_give rfl (ck_k e63) (by decide) im_X11_give sl_X11_give lk_X11_179 rfl rfl rfl dX11_heard_128 (Nat.le_of_ble_eq_true rfl) ⟨Nat.le_of_ble_eq_true rfl, Nat.le_of_ble_eq_true rfl⟩ ⟨Nat.le_of_ble_eq_true rfl, Nat.le_of_ble_eq_true rfl⟩ ?_
              obtain rfl := so hf0
              exact r_iret C dX11_heard_131
    · rw [if_pos c12] at hf0
      refine r_aload_n C dX11_heard_31 rfl ?_
      refine r_bipush (v := 6) C dX11_heard_32 (by decide) ?_
      obtain ⟨u69, e68, hf0⟩ := ob hf0
      obtain ⟨t70, h71, e72, hf0⟩ := ob2 hf0
      refine r_cV (ci := 11) (rest := []) (st2 := [.int t70]) C (s_X11_refuse e72) mk_X11_refuse rfl (ck_k e68) (by decide) im_X11_refuse sl_X11_refuse lk_X11_142 rfl rfl rfl dX11_heard_34 (Nat.le_of_ble_eq_true rfl) ⟨Nat.le_of_ble_eq_true rfl, Nat.le_of_ble_eq_true rfl⟩ ⟨Nat.le_of_ble_eq_true rfl, Nat.le_of_ble_eq_true rfl⟩ ?_
      obtain rfl := so hf0
      exact r_iret C dX11_heard_37
  · rw [if_pos c3] at hf0
    refine r_aload_n C dX11_heard_8 rfl ?_
    refine r_iconst (v := 1) C dX11_heard_9 (by decide) ?_
    obtain ⟨u74, e73, hf0⟩ := ob hf0
    obtain ⟨t75, h76, e77, hf0⟩ := ob2 hf0
    refine r_cV (ci := 11) (rest := []) (st2 := [.int t75]) C (s_X11_refuse e77) mk_X11_refuse rfl (ck_k e73) (by decide) im_X11_refuse sl_X11_refuse lk_X11_142 rfl rfl rfl dX11_heard_10 (Nat.le_of_ble_eq_true rfl) ⟨Nat.le_of_ble_eq_true rfl, Nat.le_of_ble_eq_true rfl⟩ ⟨Nat.le_of_ble_eq_true rfl, Nat.le_of_ble_eq_true rfl⟩ ?_
    obtain rfl := so hf0
    exact r_iret C dX11_heard_13
def f_X11_left (h : aH) (v0 : Nat) : Option (Int32 × aH) := (gR h 11 v0 6).bind fun t1 => (gI h 3 t1 5).bind fun t2 => (ck h 11 v0).bind fun _ => bd2 (f_X11_give h v0 t2) fun t3 h4 => some (t3, h4)
theorem s_X11_left {h : aH} {v0 : Nat} {out : Int32 × aH} (hf0 : f_X11_left h v0 = some out) : EV 1 yX11_left cX11_left 1 (some .int) h [.ref v0] (some (.int out.1)) out.2 0 0 := by
  refine EV.of (own := RX11) (lv0 := [(0, .ref v0)]) (by decide +kernel) rfl rfl (Nat.le_of_ble_eq_true rfl) ?_
  intro p l e s m args below meth c D cA B Hb C hin
  unfold f_X11_left at hf0
  refine r_aload_n C dX11_left_0 rfl ?_
  refine r_aload_n C dX11_left_1 rfl ?_
  obtain ⟨t1, e2, hf0⟩ := ob hf0
  refine r_getR C fk_X11_92 rfl dX11_left_2 e2 ?_
  obtain ⟨t3, e4, hf0⟩ := ob hf0
  refine r_getI C fk_X11_292 rfl dX11_left_5 e4 ?_
  obtain ⟨u6, e5, hf0⟩ := ob hf0
  obtain ⟨t7, h8, e9, hf0⟩ := ob2 hf0
  refine r_cV (ci := 11) (rest := []) (st2 := [.int t7]) C (s_X11_give e9) mk_X11_give rfl (ck_k e5) (by decide) im_X11_give sl_X11_give lk_X11_179 rfl rfl rfl dX11_left_8 (Nat.le_of_ble_eq_true rfl) ⟨Nat.le_of_ble_eq_true rfl, Nat.le_of_ble_eq_true rfl⟩ ⟨Nat.le_of_ble_eq_true rfl, Nat.le_of_ble_eq_true rfl⟩ ?_
  obtain rfl := so hf0
  exact r_iret C dX11_left_11
def f_X11_isLeft_j37 (h : aH) (s0 : Nat) (s1 : Int32) : Option (Int32 × aH) := (ck h 11 s0).bind fun _ => bd2 (f_X11_give h s0 s1) fun t1 h2 => some (t1, h2)
def f_X11_isLeft (h : aH) (v0 : Nat) (v1 : Int32) : Option (Int32 × aH) := (gR h 11 v0 11).bind fun t3 => (gI h 1 t3 14).bind fun t4 => (f_X11_below h v1 t4).bind fun t5 => if t5 = 0 then (ck h 11 v0).bind fun _ => bd2 (f_X11_refuse h v0 (1 : Int32)) fun t8 h9 => some (t8, h9) else (gR h 11 v0 6).bind fun t6 => (ck h 3 t6).bind fun _ => (f_X3_lives h t6 v1).bind fun t7 => if t7 = 0 then f_X11_isLeft_j37 h v0 (0 : Int32) else f_X11_isLeft_j37 h v0 (1 : Int32)
theorem s_X11_isLeft {h : aH} {v0 : Nat} {v1 : Int32} {out : Int32 × aH} (hf0 : f_X11_isLeft h v0 v1 = some out) : EV 1 yX11_isLeft cX11_isLeft 2 (some .int) h [.ref v0, .int v1] (some (.int out.1)) out.2 0 0 := by
  refine EV.of (own := RX11) (lv0 := [(0, .ref v0), (1, .int v1)]) (by decide +kernel) rfl rfl (Nat.le_of_ble_eq_true rfl) ?_
  intro p l e s m args below meth c D cA B Hb C hin
  unfold f_X11_isLeft at hf0
  have J37 : ∀ (h1 : aH) (t2 : Nat) (t3 : Int32), f_X11_isLeft_j37 h1 t2 t3 = some out → gW p l e (rmO 1 0 0) s m args below meth c (MQ below (eQ D cA B Hb out.2 (some (.int out.1))) args s 0 0 (fun q => B ≤ q)) D cA B Hb 2 h1 37 [] [.int t3, .ref t2] 0 0 := by
    intro h1 t2 t3 hf0
    unfold f_X11_isLeft_j37 at hf0
    obtain ⟨u5, e4, hf0⟩ := ob hf0
    obtain ⟨t6, h7, e8, hf0⟩ := ob2 hf0
    refine r_cV (ci := 11) (rest := []) (st2 := [.int t6]) C (s_X11_give e8) mk_X11_give rfl (ck_k e4) (by decide) im_X11_give sl_X11_give lk_X11_179 rfl rfl rfl dX11_isLeft_37 (Nat.le_of_ble_eq_true rfl) ⟨Nat.le_of_ble_eq_true rfl, Nat.le_of_ble_eq_true rfl⟩ ⟨Nat.le_of_ble_eq_true rfl, Nat.le_of_ble_eq_true rfl⟩ ?_
    obtain rfl := so hf0
    exact r_iret C dX11_isLeft_40
  refine r_iload_n C dX11_isLeft_0 rfl ?_
  refine r_aload_n C dX11_isLeft_1 rfl ?_
  obtain ⟨t9, e10, hf0⟩ := ob hf0
  refine r_getR C fk_X11_74 rfl dX11_isLeft_2 e10 ?_
  obtain ⟨t11, e12, hf0⟩ := ob hf0
  refine r_getI C fk_X11_205 rfl dX11_isLeft_5 e12 ?_
  obtain ⟨t13, e14, hf0⟩ := ob hf0
  refine r_cS (rest := []) (st2 := [.int t13]) C (s_X11_below e14) mk_X11_below sm_X11_below lk_X11_119 rfl rfl rfl dX11_isLeft_8 (Nat.le_of_ble_eq_true rfl) ⟨Nat.le_of_ble_eq_true rfl, Nat.le_of_ble_eq_true rfl⟩ ⟨Nat.le_of_ble_eq_true rfl, Nat.le_of_ble_eq_true rfl⟩ ?_
  refine r_ifne (tgt := 20) C dX11_isLeft_11 (by decide) (fun c15 => ?_) (fun c15 => ?_)
  · rw [if_neg c15] at hf0
    refine r_aload_n C dX11_isLeft_20 rfl ?_
    refine r_aload_n C dX11_isLeft_21 rfl ?_
    obtain ⟨t16, e17, hf0⟩ := ob hf0
    refine r_getR C fk_X11_92 rfl dX11_isLeft_22 e17 ?_
    refine r_iload_n C dX11_isLeft_25 rfl ?_
    obtain ⟨u19, e18, hf0⟩ := ob hf0
    obtain ⟨t20, e21, hf0⟩ := ob hf0
    refine r_cV (ci := 3) (rest := [.ref v0]) (st2 := [.int t20, .ref v0]) C (s_X3_lives e21) mk_X3_lives rfl (ck_k e18) (by decide) im_X3_lives sl_X3_lives lk_X11_295 rfl rfl rfl dX11_isLeft_26 (Nat.le_of_ble_eq_true rfl) ⟨Nat.le_of_ble_eq_true rfl, Nat.le_of_ble_eq_true rfl⟩ ⟨Nat.le_of_ble_eq_true rfl, Nat.le_of_ble_eq_true rfl⟩ ?_
    refine r_ifeq (tgt := 36) C dX11_isLeft_29 (by decide) (fun c22 => ?_) (fun c22 => ?_)
    · rw [if_pos c22] at hf0
      refine r_iconst (v := 0) C dX11_isLeft_36 (by decide) ?_
      refine r_subk [] (lv' := []) rfl ?_
      exact J37 h v0 (0 : Int32) hf0
    · rw [if_neg c22] at hf0
      refine r_iconst (v := 1) C dX11_isLeft_32 (by decide) ?_
      refine r_goto (tgt := 37) C dX11_isLeft_33 (by decide) ?_
      refine r_subk [] (lv' := []) rfl ?_
      exact J37 h v0 (1 : Int32) hf0
  · rw [if_pos c15] at hf0
    refine r_aload_n C dX11_isLeft_14 rfl ?_
    refine r_iconst (v := 1) C dX11_isLeft_15 (by decide) ?_
    obtain ⟨u24, e23, hf0⟩ := ob hf0
    obtain ⟨t25, h26, e27, hf0⟩ := ob2 hf0
    refine r_cV (ci := 11) (rest := []) (st2 := [.int t25]) C (s_X11_refuse e27) mk_X11_refuse rfl (ck_k e23) (by decide) im_X11_refuse sl_X11_refuse lk_X11_142 rfl rfl rfl dX11_isLeft_16 (Nat.le_of_ble_eq_true rfl) ⟨Nat.le_of_ble_eq_true rfl, Nat.le_of_ble_eq_true rfl⟩ ⟨Nat.le_of_ble_eq_true rfl, Nat.le_of_ble_eq_true rfl⟩ ?_
    obtain rfl := so hf0
    exact r_iret C dX11_isLeft_19
def f_X11_fits_j36 (h : aH) (v0 : Nat) : Option (Int32 × aH) := (ck h 11 v0).bind fun _ => bd2 (f_X11_refuse h v0 (1 : Int32)) fun t1 h2 => some (t1, h2)
def f_X11_fits (h : aH) (v0 : Nat) (v1 : Int32) (v2 : Int32) (v3 : Int32) : Option (Int32 × aH) := (gR h 11 v0 11).bind fun t3 => (gI h 1 t3 17).bind fun t4 => (f_X11_below h v1 t4).bind fun t5 => if t5 = 0 then f_X11_fits_j36 h v0 else (f_X11_below h v2 (4 : Int32)).bind fun t6 => if t6 = 0 then f_X11_fits_j36 h v0 else (gR h 11 v0 11).bind fun t7 => (gI h 1 t7 14).bind fun t8 => (f_X11_below h v3 t8).bind fun t9 => if t9 = 0 then f_X11_fits_j36 h v0 else (gR h 11 v0 11).bind fun t10 => (ck h 1 t10).bind fun _ => (f_X1_canBe h t10 v3).bind fun t11 => if t11 = 0 then (ck h 11 v0).bind fun _ => bd2 (f_X11_refuse h v0 (7 : Int32)) fun t16 h17 => some (t16, h17) else (gR h 11 v0 6).bind fun t12 => (ck h 3 t12).bind fun _ => (f_X3_kindsLeft h t12 v1 v3).bind fun t13 => (ck h 11 v0).bind fun _ => bd2 (f_X11_give h v0 ((t13 >>> (v2 &&& 31)) &&& (1 : Int32))) fun t14 h15 => some (t14, h15)
theorem s_X11_fits {h : aH} {v0 : Nat} {v1 : Int32} {v2 : Int32} {v3 : Int32} {out : Int32 × aH} (hf0 : f_X11_fits h v0 v1 v2 v3 = some out) : EV 1 yX11_fits cX11_fits 4 (some .int) h [.ref v0, .int v1, .int v2, .int v3] (some (.int out.1)) out.2 0 0 := by
  refine EV.of (own := RX11) (lv0 := [(0, .ref v0), (1, .int v1), (2, .int v2), (3, .int v3)]) (by decide +kernel) rfl rfl (Nat.le_of_ble_eq_true rfl) ?_
  intro p l e s m args below meth c D cA B Hb C hin
  unfold f_X11_fits at hf0
  have J36 : ∀ (h1 : aH) (t2 : Nat), f_X11_fits_j36 h1 t2 = some out → gW p l e (rmO 1 0 0) s m args below meth c (MQ below (eQ D cA B Hb out.2 (some (.int out.1))) args s 0 0 (fun q => B ≤ q)) D cA B Hb 4 h1 36 [(0, .ref t2)] [] 0 0 := by
    intro h1 t2 hf0
    unfold f_X11_fits_j36 at hf0
    refine r_aload_n C dX11_fits_36 rfl ?_
    refine r_iconst (v := 1) C dX11_fits_37 (by decide) ?_
    obtain ⟨u4, e3, hf0⟩ := ob hf0
    obtain ⟨t5, h6, e7, hf0⟩ := ob2 hf0
    refine r_cV (ci := 11) (rest := []) (st2 := [.int t5]) C (s_X11_refuse e7) mk_X11_refuse rfl (ck_k e3) (by decide) im_X11_refuse sl_X11_refuse lk_X11_142 rfl rfl rfl dX11_fits_38 (Nat.le_of_ble_eq_true rfl) ⟨Nat.le_of_ble_eq_true rfl, Nat.le_of_ble_eq_true rfl⟩ ⟨Nat.le_of_ble_eq_true rfl, Nat.le_of_ble_eq_true rfl⟩ ?_
    obtain rfl := so hf0
    exact r_iret C dX11_fits_41
  refine r_iload_n C dX11_fits_0 rfl ?_
  refine r_aload_n C dX11_fits_1 rfl ?_
  obtain ⟨t8, e9, hf0⟩ := ob hf0
  refine r_getR C fk_X11_74 rfl dX11_fits_2 e9 ?_
  obtain ⟨t10, e11, hf0⟩ := ob hf0
  refine r_getI C fk_X11_211 rfl dX11_fits_5 e11 ?_
  obtain ⟨t12, e13, hf0⟩ := ob hf0
  refine r_cS (rest := []) (st2 := [.int t12]) C (s_X11_below e13) mk_X11_below sm_X11_below lk_X11_119 rfl rfl rfl dX11_fits_8 (Nat.le_of_ble_eq_true rfl) ⟨Nat.le_of_ble_eq_true rfl, Nat.le_of_ble_eq_true rfl⟩ ⟨Nat.le_of_ble_eq_true rfl, Nat.le_of_ble_eq_true rfl⟩ ?_
  refine r_ifeq (tgt := 36) C dX11_fits_11 (by decide) (fun c14 => ?_) (fun c14 => ?_)
  · rw [if_pos c14] at hf0
    refine r_subk [0] (lv' := [(0, .ref v0)]) rfl ?_
    exact J36 h v0 hf0
  · rw [if_neg c14] at hf0
    refine r_iload_n C dX11_fits_14 rfl ?_
    refine r_iconst (v := 4) C dX11_fits_15 (by decide) ?_
    obtain ⟨t15, e16, hf0⟩ := ob hf0
    refine r_cS (rest := []) (st2 := [.int t15]) C (s_X11_below e16) mk_X11_below sm_X11_below lk_X11_119 rfl rfl rfl dX11_fits_16 (Nat.le_of_ble_eq_true rfl) ⟨Nat.le_of_ble_eq_true rfl, Nat.le_of_ble_eq_true rfl⟩ ⟨Nat.le_of_ble_eq_true rfl, Nat.le_of_ble_eq_true rfl⟩ ?_
    refine r_ifeq (tgt := 36) C dX11_fits_19 (by decide) (fun c17 => ?_) (fun c17 => ?_)
    · rw [if_pos c17] at hf0
      refine r_subk [0] (lv' := [(0, .ref v0)]) rfl ?_
      exact J36 h v0 hf0
    · rw [if_neg c17] at hf0
      refine r_iload_n C dX11_fits_22 rfl ?_
      refine r_aload_n C dX11_fits_23 rfl ?_
      obtain ⟨t18, e19, hf0⟩ := ob hf0
      refine r_getR C fk_X11_74 rfl dX11_fits_24 e19 ?_
      obtain ⟨t20, e21, hf0⟩ := ob hf0
      refine r_getI C fk_X11_205 rfl dX11_fits_27 e21 ?_
      obtain ⟨t22, e23, hf0⟩ := ob hf0
      refine r_cS (rest := []) (st2 := [.int t22]) C (s_X11_below e23) mk_X11_below sm_X11_below lk_X11_119 rfl rfl rfl dX11_fits_30 (Nat.le_of_ble_eq_true rfl) ⟨Nat.le_of_ble_eq_true rfl, Nat.le_of_ble_eq_true rfl⟩ ⟨Nat.le_of_ble_eq_true rfl, Nat.le_of_ble_eq_true rfl⟩ ?_
      refine r_ifne (tgt := 42) C dX11_fits_33 (by decide) (fun c24 => ?_) (fun c24 => ?_)
      · rw [if_neg c24] at hf0
        refine r_aload_n C dX11_fits_42 rfl ?_
        obtain ⟨t25, e26, hf0⟩ := ob hf0
        refine r_getR C fk_X11_74 rfl dX11_fits_43 e26 ?_
        refine r_iload_n C dX11_fits_46 rfl ?_
        obtain ⟨u28, e27, hf0⟩ := ob hf0
        obtain ⟨t29, e30, hf0⟩ := ob hf0
        refine r_cV (ci := 1) (rest := []) (st2 := [.int t29]) C (s_X1_canBe e30) mk_X1_canBe rfl (ck_k e27) (by decide) im_X1_canBe sl_X1_canBe lk_X11_239 rfl rfl rfl dX11_fits_47 (Nat.le_of_ble_eq_true rfl) ⟨Nat.le_of_ble_eq_true rfl, Nat.le_of_ble_eq_true rfl⟩ ⟨Nat.le_of_ble_eq_true rfl, Nat.le_of_ble_eq_true rfl⟩ ?_
        refine r_ifne (tgt := 60) C dX11_fits_50 (by decide) (fun c31 => ?_) (fun c31 => ?_)
        · rw [if_neg c31] at hf0
          refine r_aload_n C dX11_fits_60 rfl ?_
          refine r_aload_n C dX11_fits_61 rfl ?_
          obtain ⟨t32, e33, hf0⟩ := ob hf0
          refine r_getR C fk_X11_92 rfl dX11_fits_62 e33 ?_
          refine r_iload_n C dX11_fits_65 rfl ?_
          refine r_iload_n C dX11_fits_66 rfl ?_
          obtain ⟨u35, e34, hf0⟩ := ob hf0
          obtain ⟨t36, e37, hf0⟩ := ob hf0
          refine r_cV (ci := 3) (rest := [.ref v0]) (st2 := [.int t36, .ref v0]) C (s_X3_kindsLeft e37) mk_X3_kindsLeft rfl (ck_k e34) (by decide) im_X3_kindsLeft sl_X3_kindsLeft lk_X11_298 rfl rfl rfl dX11_fits_67 (Nat.le_of_ble_eq_true rfl) ⟨Nat.le_of_ble_eq_true rfl, Nat.le_of_ble_eq_true rfl⟩ ⟨Nat.le_of_ble_eq_true rfl, Nat.le_of_ble_eq_true rfl⟩ ?_
          refine r_iload_n C dX11_fits_70 rfl ?_
          refine r_ishr C dX11_fits_71 ?_
          refine r_iconst (v := 1) C dX11_fits_72 (by decide) ?_
          refine r_iand C dX11_fits_73 ?_
          obtain ⟨u39, e38, hf0⟩ := ob hf0
          obtain ⟨t40, h41, e42, hf0⟩ := ob2 hf0
          refine r_cV (ci := 11) (rest := []) (st2 := [.int t40]) C (s_X11_give e42) mk_X11_give rfl (ck_k e38) (by decide) im_X11_give sl_X11_give lk_X11_179 rfl rfl rfl dX11_fits_74 (Nat.le_of_ble_eq_true rfl) ⟨Nat.le_of_ble_eq_true rfl, Nat.le_of_ble_eq_true rfl⟩ ⟨Nat.le_of_ble_eq_true rfl, Nat.le_of_ble_eq_true rfl⟩ ?_
          obtain rfl := so hf0
          exact r_iret C dX11_fits_77
        · rw [if_pos c31] at hf0
          refine r_aload_n C dX11_fits_53 rfl ?_
          refine r_bipush (v := 7) C dX11_fits_54 (by decide) ?_
          obtain ⟨u44, e43, hf0⟩ := ob hf0
          obtain ⟨t45, h46, e47, hf0⟩ := ob2 hf0
          refine r_cV (ci := 11) (rest := []) (st2 := [.int t45]) C (s_X11_refuse e47) mk_X11_refuse rfl (ck_k e43) (by decide) im_X11_refuse sl_X11_refuse lk_X11_142 rfl rfl rfl dX11_fits_56 (Nat.le_of_ble_eq_true rfl) ⟨Nat.le_of_ble_eq_true rfl, Nat.le_of_ble_eq_true rfl⟩ ⟨Nat.le_of_ble_eq_true rfl, Nat.le_of_ble_eq_true rfl⟩ ?_
          obtain rfl := so hf0
          exact r_iret C dX11_fits_59
      · rw [if_pos c24] at hf0
        refine r_subk [0] (lv' := [(0, .ref v0)]) rfl ?_
        exact J36 h v0 hf0
def f_X11_sure (h : aH) (v0 : Nat) (v1 : Int32) : Option (Int32 × aH) := (gR h 11 v0 11).bind fun t1 => (gI h 1 t1 16).bind fun t2 => (f_X11_below h v1 t2).bind fun t3 => if t3 = 0 then (ck h 11 v0).bind fun _ => bd2 (f_X11_refuse h v0 (1 : Int32)) fun t10 h11 => some (t10, h11) else (gR h 11 v0 6).bind fun t4 => (ck h 3 t4).bind fun _ => (f_X3_certainty h t4 v1).bind fun t5 => if t5 = (-1 : Int32) then (ck h 11 v0).bind fun _ => bd2 (f_X11_refuse h v0 (6 : Int32)) fun t8 h9 => some (t8, h9) else (ck h 11 v0).bind fun _ => bd2 (f_X11_give h v0 t5) fun t6 h7 => some (t6, h7)
theorem s_X11_sure {h : aH} {v0 : Nat} {v1 : Int32} {out : Int32 × aH} (hf0 : f_X11_sure h v0 v1 = some out) : EV 2 yX11_sure cX11_sure 3 (some .int) h [.ref v0, .int v1] (some (.int out.1)) out.2 0 0 := by
  refine EV.of (own := RX11) (lv0 := [(0, .ref v0), (1, .int v1)]) (by decide +kernel) rfl rfl (Nat.le_of_ble_eq_true rfl) ?_
  intro p l e s m args below meth c D cA B Hb C hin
  unfold f_X11_sure at hf0
  refine r_iload_n C dX11_sure_0 rfl ?_
  refine r_aload_n C dX11_sure_1 rfl ?_
  obtain ⟨t1, e2, hf0⟩ := ob hf0
  refine r_getR C fk_X11_74 rfl dX11_sure_2 e2 ?_
  obtain ⟨t3, e4, hf0⟩ := ob hf0
  refine r_getI C fk_X11_208 rfl dX11_sure_5 e4 ?_
  obtain ⟨t5, e6, hf0⟩ := ob hf0
  refine r_cS (rest := []) (st2 := [.int t5]) C (s_X11_below e6) mk_X11_below sm_X11_below lk_X11_119 rfl rfl rfl dX11_sure_8 (Nat.le_of_ble_eq_true rfl) ⟨Nat.le_of_ble_eq_true rfl, Nat.le_of_ble_eq_true rfl⟩ ⟨Nat.le_of_ble_eq_true rfl, Nat.le_of_ble_eq_true rfl⟩ ?_
  refine r_ifne (tgt := 20) C dX11_sure_11 (by decide) (fun c7 => ?_) (fun c7 => ?_)
  · rw [if_neg c7] at hf0
    refine r_aload_n C dX11_sure_20 rfl ?_
    obtain ⟨t8, e9, hf0⟩ := ob hf0
    refine r_getR C fk_X11_92 rfl dX11_sure_21 e9 ?_
    refine r_iload_n C dX11_sure_24 rfl ?_
    obtain ⟨u11, e10, hf0⟩ := ob hf0
    obtain ⟨t12, e13, hf0⟩ := ob hf0
    refine r_cV (ci := 3) (rest := []) (st2 := [.int t12]) C (s_X3_certainty e13) mk_X3_certainty rfl (ck_k e10) (by decide) im_X3_certainty sl_X3_certainty lk_X11_301 rfl rfl rfl dX11_sure_25 (Nat.le_of_ble_eq_true rfl) ⟨Nat.le_of_ble_eq_true rfl, Nat.le_of_ble_eq_true rfl⟩ ⟨Nat.le_of_ble_eq_true rfl, Nat.le_of_ble_eq_true rfl⟩ ?_
    refine r_istore_n (lv' := [(2, .int t12), (0, .ref v0), (1, .int v1)]) C dX11_sure_28 (by decide) rfl rfl ?_
    refine r_iload_n C dX11_sure_29 rfl ?_
    refine r_iconst (v := -1) C dX11_sure_30 (by decide) ?_
    refine r_icmp_ne (tgt := 43) C dX11_sure_31 (by decide) (fun c14 => ?_) (fun c14 => ?_)
    · rw [if_neg c14] at hf0
      refine r_aload_n C dX11_sure_43 rfl ?_
      refine r_iload_n C dX11_sure_44 rfl ?_
      obtain ⟨u16, e15, hf0⟩ := ob hf0
      obtain ⟨t17, h18, e19, hf0⟩ := ob2 hf0
      refine r_cV (ci := 11) (rest := []) (st2 := [.int t17]) C (s_X11_give e19) mk_X11_give rfl (ck_k e15) (by decide) im_X11_give sl_X11_give lk_X11_179 rfl rfl rfl dX11_sure_45 (Nat.le_of_ble_eq_true rfl) ⟨Nat.le_of_ble_eq_true rfl, Nat.le_of_ble_eq_true rfl⟩ ⟨Nat.le_of_ble_eq_true rfl, Nat.le_of_ble_eq_true rfl⟩ ?_
      obtain rfl := so hf0
      exact r_iret C dX11_sure_48
    · rw [if_pos c14] at hf0
      refine r_aload_n C dX11_sure_34 rfl ?_
      refine r_bipush (v := 6) C dX11_sure_35 (by decide) ?_
      obtain ⟨u21, e20, hf0⟩ := ob hf0
      obtain ⟨t22, h23, e24, hf0⟩ := ob2 hf0
      refine r_cV (ci := 11) (rest := []) (st2 := [.int t22]) C (s_X11_refuse e24) mk_X11_refuse rfl (ck_k e20) (by decide) im_X11_refuse sl_X11_refuse lk_X11_142 rfl rfl rfl dX11_sure_37 (Nat.le_of_ble_eq_true rfl) ⟨Nat.le_of_ble_eq_true rfl, Nat.le_of_ble_eq_true rfl⟩ ⟨Nat.le_of_ble_eq_true rfl, Nat.le_of_ble_eq_true rfl⟩ ?_
      refine r_goto (tgt := 48) C dX11_sure_40 (by decide) ?_
      obtain rfl := so hf0
      exact r_iret C dX11_sure_48
  · rw [if_pos c7] at hf0
    refine r_aload_n C dX11_sure_14 rfl ?_
    refine r_iconst (v := 1) C dX11_sure_15 (by decide) ?_
    obtain ⟨u26, e25, hf0⟩ := ob hf0
    obtain ⟨t27, h28, e29, hf0⟩ := ob2 hf0
    refine r_cV (ci := 11) (rest := []) (st2 := [.int t27]) C (s_X11_refuse e29) mk_X11_refuse rfl (ck_k e25) (by decide) im_X11_refuse sl_X11_refuse lk_X11_142 rfl rfl rfl dX11_sure_16 (Nat.le_of_ble_eq_true rfl) ⟨Nat.le_of_ble_eq_true rfl, Nat.le_of_ble_eq_true rfl⟩ ⟨Nat.le_of_ble_eq_true rfl, Nat.le_of_ble_eq_true rfl⟩ ?_
    obtain rfl := so hf0
    exact r_iret C dX11_sure_19
def f_X11_tell_j45 (h : aH) (v0 : Nat) (v1 : Int64) (v3 : Int64) (v5 : Int64) : Option (aH) := if (lg_cmp v5 (0 : Int64)) ≤ 0 then some h else (nzL v5).bind fun _ => (pJ h 11 v0 18 (v1 / v5)).bind fun h1 => (nzL v5).bind fun _ => (pJ h1 11 v0 19 (v3 / v5)).bind fun h2 => some h2
def f_X11_tell_b9 (h : aH) (v0 : Nat) (v1 : Int64) (v3 : Int64) (v5 : Int64) (v7 : Int64) (v9 : Int32) : Option ((Int64 × Int64 × Int32) ⊕ (Int64)) := if (200 : Int32) ≤ v9 then some (.inr v5) else if (lg_cmp v7 (0 : Int64)) = 0 then some (.inr v5) else (nzL v7).bind fun _ => (some (v5 - v5 / v7 * v7)).bind fun t3 => (some (v9 + (1 : Int32))).bind fun t4 => some (.inl (v7, t3, t4))
def f_X11_tell_l9 (h : aH) (v0 : Nat) (v1 : Int64) (v3 : Int64) (v5 : Int64) (v7 : Int64) (v9 : Int32) : Option (Int64) := whileL wN (fun q : Int64 × Int64 × Int32 => f_X11_tell_b9 h v0 v1 v3 q.1 q.2.1 q.2.2) (v5, v7, v9)
def f_X11_tell (h : aH) (v0 : Nat) (v1 : Int64) (v3 : Int64) : Option (aH) := (f_X11_tell_l9 h v0 v1 v3 v3 v1 (0 : Int32)).bind fun t5 => f_X11_tell_j45 h v0 v1 v3 t5
theorem s_X11_tell {h : aH} {v0 : Nat} {v1 : Int64} {v3 : Int64} {out : aH} (hf0 : f_X11_tell h v0 v1 v3 = some out) : EV 0 yX11_tell cX11_tell 12 none h [.ref v0, .long v1, .long v3] none out 0 0 := by
  refine EV.of (own := RX11) (lv0 := [(0, .ref v0), (1, .long v1), (3, .long v3)]) (by decide +kernel) rfl rfl (Nat.le_of_ble_eq_true rfl) ?_
  intro p l e s m args below meth c D cA B Hb C hin
  unfold f_X11_tell at hf0
  have J45 : ∀ (h1 : aH) (t2 : Nat) (t3 : Int64) (t4 : Int64) (t5 : Int64), f_X11_tell_j45 h1 t2 t3 t4 t5 = some out → gW p l e (rmO 0 0 0) s m args below meth c (MQ below (eQ D cA B Hb out none) args s 0 0 (fun q => B ≤ q)) D cA B Hb 12 h1 45 [(0, .ref t2), (1, .long t3), (3, .long t4), (5, .long t5)] [] 0 0 := by
    intro h1 t2 t3 t4 t5 hf0
    unfold f_X11_tell_j45 at hf0
    refine r_lload C dX11_tell_45 rfl ?_
    refine r_lconst (v := 0) C dX11_tell_47 (by decide) ?_
    refine r_lcmp C dX11_tell_48 ?_
    refine r_ifle (tgt := 68) C dX11_tell_49 (by decide) (fun c6 => ?_) (fun c6 => ?_)
    · rw [if_pos c6] at hf0
      obtain rfl := so hf0
      exact r_vret C dX11_tell_68
    · rw [if_neg c6] at hf0
      refine r_aload_n C dX11_tell_52 rfl ?_
      refine r_lload_n C dX11_tell_53 rfl ?_
      refine r_lload C dX11_tell_54 rfl ?_
      obtain ⟨u8, e7, hf0⟩ := ob hf0
      refine r_ldiv C dX11_tell_56 (nzL_k e7) ?_
      obtain ⟨h9, e10, hf0⟩ := ob hf0
      refine r_putJ C fk_X11_66 dX11_tell_57 e10 ?_
      refine r_aload_n C dX11_tell_60 rfl ?_
      refine r_lload_n C dX11_tell_61 rfl ?_
      refine r_lload C dX11_tell_62 rfl ?_
      obtain ⟨u12, e11, hf0⟩ := ob hf0
      refine r_ldiv C dX11_tell_64 (nzL_k e11) ?_
      obtain ⟨h13, e14, hf0⟩ := ob hf0
      refine r_putJ C fk_X11_70 dX11_tell_65 e14 ?_
      obtain rfl := so hf0
      exact r_vret C dX11_tell_68
  refine r_lload_n C dX11_tell_0 rfl ?_
  refine r_lstore (lv' := [(5, .long v3), (0, .ref v0), (1, .long v1), (3, .long v3)]) C dX11_tell_1 (by decide) rfl rfl ?_
  refine r_lload_n C dX11_tell_3 rfl ?_
  refine r_lstore (lv' := [(7, .long v1), (5, .long v3), (0, .ref v0), (1, .long v1), (3, .long v3)]) C dX11_tell_4 (by decide) rfl rfl ?_
  refine r_iconst (v := 0) C dX11_tell_6 (by decide) ?_
  refine r_istore (lv' := [(9, .int (0 : Int32)), (7, .long v1), (5, .long v3), (0, .ref v0), (1, .long v1), (3, .long v3)]) C dX11_tell_7 (by decide) rfl rfl ?_
  obtain ⟨y15, hl9, hf0⟩ := ob hf0
  have L9 : ∀ (n : Nat) (t16 : Int64) (t17 : Int64) (t18 : Int32), whileL n (fun q : Int64 × Int64 × Int32 => f_X11_tell_b9 h v0 v1 v3 q.1 q.2.1 q.2.2) (t16, t17, t18) = some y15 → gW p l e (rmO 0 0 0) s m args below meth c (MQ below (eQ D cA B Hb out none) args s 0 0 (fun q => B ≤ q)) D cA B Hb 12 h 9 [(0, .ref v0), (1, .long v1), (3, .long v3), (5, .long t16), (7, .long t17), (9, .int t18)] [] 0 0 := by
    intro n
    induction n with
    | zero => intro t16 t17 t18 hz; cases hz
    | succ n ih9 =>
      intro t16 t17 t18 hz
      obtain ⟨x9, hf1, hk9⟩ := wl hz
      replace hf1 : f_X11_tell_b9 h v0 v1 v3 t16 t17 t18 = some x9 := hf1
      unfold f_X11_tell_b9 at hf1
      refine r_iload C dX11_tell_9 rfl ?_
      refine r_sipush (v := 200) C dX11_tell_11 (by decide) ?_
      refine r_icmp_ge (tgt := 45) C dX11_tell_14 (by decide) (fun c19 => ?_) (fun c19 => ?_)
      · rw [if_pos c19] at hf1
        obtain rfl := so hf1
        obtain rfl := so (show some t16 = some y15 from hk9)
        refine r_subk [0, 1, 2, 3] (lv' := [(0, .ref v0), (1, .long v1), (3, .long v3), (5, .long t16)]) rfl ?_
        exact J45 h v0 v1 v3 t16 hf0
      · rw [if_neg c19] at hf1
        refine r_lload C dX11_tell_17 rfl ?_
        refine r_lconst (v := 0) C dX11_tell_19 (by decide) ?_
        refine r_lcmp C dX11_tell_20 ?_
        refine r_ifeq (tgt := 45) C dX11_tell_21 (by decide) (fun c20 => ?_) (fun c20 => ?_)
        · rw [if_pos c20] at hf1
          obtain rfl := so hf1
          obtain rfl := so (show some t16 = some y15 from hk9)
          refine r_subk [0, 1, 2, 3] (lv' := [(0, .ref v0), (1, .long v1), (3, .long v3), (5, .long t16)]) rfl ?_
          exact J45 h v0 v1 v3 t16 hf0
        · rw [if_neg c20] at hf1
          refine r_lload C dX11_tell_24 rfl ?_
          refine r_lload C dX11_tell_26 rfl ?_
          obtain ⟨u22, e21, hf1⟩ := ob hf1
          refine r_lrem C dX11_tell_28 (nzL_k e21) ?_
          obtain ⟨t23, e24, hf1⟩ := ob hf1
          refine r_lstore (lv' := [(10, .long t23), (0, .ref v0), (1, .long v1), (3, .long v3), (5, .long t16), (7, .long t17), (9, .int t18)]) C dX11_tell_29 (by decide) e24 rfl ?_
          refine r_lload C dX11_tell_31 rfl ?_
          refine r_lstore (lv' := [(5, .long t17), (10, .long t23), (0, .ref v0), (1, .long v1), (3, .long v3), (7, .long t17), (9, .int t18)]) C dX11_tell_33 (by decide) rfl rfl ?_
          refine r_lload C dX11_tell_35 rfl ?_
          refine r_lstore (lv' := [(7, .long t23), (5, .long t17), (10, .long t23), (0, .ref v0), (1, .long v1), (3, .long v3), (9, .int t18)]) C dX11_tell_37 (by decide) rfl rfl ?_
          obtain ⟨t25, e26, hf1⟩ := ob hf1
          refine r_iinc (lv' := [(9, .int t25), (7, .long t23), (5, .long t17), (10, .long t23), (0, .ref v0), (1, .long v1), (3, .long v3)]) C dX11_tell_39 rfl e26 (by decide) rfl ?_
          refine r_goto (tgt := 9) C dX11_tell_42 (by decide) ?_
          obtain rfl := so hf1
          refine r_subk [4, 5, 6, 2, 1, 0] (lv' := [(0, .ref v0), (1, .long v1), (3, .long v3), (5, .long t17), (7, .long t23), (9, .int t25)]) rfl ?_
          exact ih9 t17 t23 t25 hk9
  refine r_subk [3, 4, 5, 2, 1, 0] (lv' := [(0, .ref v0), (1, .long v1), (3, .long v3), (5, .long v3), (7, .long v1), (9, .int (0 : Int32))]) rfl ?_
  exact L9 wN v3 v1 (0 : Int32) hl9
def f_X11_chance (h : aH) (v0 : Nat) (v1 : Int32) : Option (Int32 × aH) := (gR h 11 v0 11).bind fun t1 => (gI h 1 t1 16).bind fun t2 => (f_X11_below h v1 t2).bind fun t3 => if t3 = 0 then (ck h 11 v0).bind fun _ => bd2 (f_X11_deny h v0 (1 : Int32)) fun t17 h18 => (rZ t17).bind fun t19 => some (t19, h18) else (gR h 11 v0 6).bind fun t4 => (gI h 3 t4 5).bind fun t5 => if t5 = 0 then (ck h 11 v0).bind fun _ => bd2 (f_X11_deny h v0 (6 : Int32)) fun t14 h15 => (rZ t14).bind fun t16 => some (t16, h15) else (gR h 11 v0 6).bind fun t6 => (ck h 3 t6).bind fun _ => (f_X3_weightIn h t6 v1).bind fun t7 => (gR h 11 v0 6).bind fun t8 => (ck h 3 t8).bind fun _ => (f_X3_weightOfAll h t8).bind fun t9 => (ck h 11 v0).bind fun _ => (f_X11_tell h v0 t7 t9).bind fun h10 => (ck h10 11 v0).bind fun _ => bd2 (f_X11_grant h10 v0) fun t11 h12 => (rZ t11).bind fun t13 => some (t13, h12)
theorem s_X11_chance {h : aH} {v0 : Nat} {v1 : Int32} {out : Int32 × aH} (hf0 : f_X11_chance h v0 v1 = some out) : EV 4 yX11_chance cX11_chance 2 (some .boolean) h [.ref v0, .int v1] (some (.int out.1)) out.2 0 0 := by
  refine EV.of (own := RX11) (lv0 := [(0, .ref v0), (1, .int v1)]) (by decide +kernel) rfl rfl (Nat.le_of_ble_eq_true rfl) ?_
  intro p l e s m args below meth c D cA B Hb C hin
  unfold f_X11_chance at hf0
  refine r_iload_n C dX11_chance_0 rfl ?_
  refine r_aload_n C dX11_chance_1 rfl ?_
  obtain ⟨t1, e2, hf0⟩ := ob hf0
  refine r_getR C fk_X11_74 rfl dX11_chance_2 e2 ?_
  obtain ⟨t3, e4, hf0⟩ := ob hf0
  refine r_getI C fk_X11_208 rfl dX11_chance_5 e4 ?_
  obtain ⟨t5, e6, hf0⟩ := ob hf0
  refine r_cS (rest := []) (st2 := [.int t5]) C (s_X11_below e6) mk_X11_below sm_X11_below lk_X11_119 rfl rfl rfl dX11_chance_8 (Nat.le_of_ble_eq_true rfl) ⟨Nat.le_of_ble_eq_true rfl, Nat.le_of_ble_eq_true rfl⟩ ⟨Nat.le_of_ble_eq_true rfl, Nat.le_of_ble_eq_true rfl⟩ ?_
  refine r_ifne (tgt := 20) C dX11_chance_11 (by decide) (fun c7 => ?_) (fun c7 => ?_)
  · rw [if_neg c7] at hf0
    refine r_aload_n C dX11_chance_20 rfl ?_
    obtain ⟨t8, e9, hf0⟩ := ob hf0
    refine r_getR C fk_X11_92 rfl dX11_chance_21 e9 ?_
    obtain ⟨t10, e11, hf0⟩ := ob hf0
    refine r_getI C fk_X11_292 rfl dX11_chance_24 e11 ?_
    refine r_ifne (tgt := 37) C dX11_chance_27 (by decide) (fun c12 => ?_) (fun c12 => ?_)
    · rw [if_neg c12] at hf0
      refine r_aload_n C dX11_chance_37 rfl ?_
      refine r_aload_n C dX11_chance_38 rfl ?_
      obtain ⟨t13, e14, hf0⟩ := ob hf0
      refine r_getR C fk_X11_92 rfl dX11_chance_39 e14 ?_
      refine r_iload_n C dX11_chance_42 rfl ?_
      obtain ⟨u16, e15, hf0⟩ := ob hf0
      obtain ⟨t17, e18, hf0⟩ := ob hf0
      refine r_cV (ci := 3) (rest := [.ref v0]) (st2 := [.long t17, .ref v0]) C (s_X3_weightIn e18) mk_X3_weightIn rfl (ck_k e15) (by decide) im_X3_weightIn sl_X3_weightIn lk_X11_304 rfl rfl rfl dX11_chance_43 (Nat.le_of_ble_eq_true rfl) ⟨Nat.le_of_ble_eq_true rfl, Nat.le_of_ble_eq_true rfl⟩ ⟨Nat.le_of_ble_eq_true rfl, Nat.le_of_ble_eq_true rfl⟩ ?_
      refine r_aload_n C dX11_chance_46 rfl ?_
      obtain ⟨t19, e20, hf0⟩ := ob hf0
      refine r_getR C fk_X11_92 rfl dX11_chance_47 e20 ?_
      obtain ⟨u22, e21, hf0⟩ := ob hf0
      obtain ⟨t23, e24, hf0⟩ := ob hf0
      refine r_cV (ci := 3) (rest := [.long t17, .ref v0]) (st2 := [.long t23, .long t17, .ref v0]) C (s_X3_weightOfAll e24) mk_X3_weightOfAll rfl (ck_k e21) (by decide) im_X3_weightOfAll sl_X3_weightOfAll lk_X11_308 rfl rfl rfl dX11_chance_50 (Nat.le_of_ble_eq_true rfl) ⟨Nat.le_of_ble_eq_true rfl, Nat.le_of_ble_eq_true rfl⟩ ⟨Nat.le_of_ble_eq_true rfl, Nat.le_of_ble_eq_true rfl⟩ ?_
      obtain ⟨u26, e25, hf0⟩ := ob hf0
      obtain ⟨h27, e28, hf0⟩ := ob hf0
      refine r_cV (ci := 11) (rest := []) (st2 := []) C (s_X11_tell e28) mk_X11_tell rfl (ck_k e25) (by decide) im_X11_tell sl_X11_tell lk_X11_312 rfl rfl rfl dX11_chance_53 (Nat.le_of_ble_eq_true rfl) ⟨Nat.le_of_ble_eq_true rfl, Nat.le_of_ble_eq_true rfl⟩ ⟨Nat.le_of_ble_eq_true rfl, Nat.le_of_ble_eq_true rfl⟩ ?_
      refine r_aload_n C dX11_chance_56 rfl ?_
      obtain ⟨u30, e29, hf0⟩ := ob hf0
      obtain ⟨t31, h32, e33, hf0⟩ := ob2 hf0
      refine r_cV (ci := 11) (rest := []) (st2 := [.int t31]) C (s_X11_grant e33) mk_X11_grant rfl (ck_k e29) (by decide) im_X11_grant sl_X11_grant lk_X11_130 rfl rfl rfl dX11_chance_57 (Nat.le_of_ble_eq_true rfl) ⟨Nat.le_of_ble_eq_true rfl, Nat.le_of_ble_eq_true rfl⟩ ⟨Nat.le_of_ble_eq_true rfl, Nat.le_of_ble_eq_true rfl⟩ ?_
      obtain ⟨t34, e35, hf0⟩ := ob hf0
      obtain ⟨rfl, e35z⟩ := rZ_k e35
      obtain rfl := so hf0
      exact r_zret C dX11_chance_60 e35z
    · rw [if_pos c12] at hf0
      refine r_aload_n C dX11_chance_30 rfl ?_
      refine r_bipush (v := 6) C dX11_chance_31 (by decide) ?_
      obtain ⟨u37, e36, hf0⟩ := ob hf0
      obtain ⟨t38, h39, e40, hf0⟩ := ob2 hf0
      refine r_cV (ci := 11) (rest := []) (st2 := [.int t38]) C (s_X11_deny e40) mk_X11_deny rfl (ck_k e36) (by decide) im_X11_deny sl_X11_deny lk_X11_123 rfl rfl rfl dX11_chance_33 (Nat.le_of_ble_eq_true rfl) ⟨Nat.le_of_ble_eq_true rfl, Nat.le_of_ble_eq_true rfl⟩ ⟨Nat.le_of_ble_eq_true rfl, Nat.le_of_ble_eq_true rfl⟩ ?_
      obtain ⟨t41, e42, hf0⟩ := ob hf0
      obtain ⟨rfl, e42z⟩ := rZ_k e42
      obtain rfl := so hf0
      exact r_zret C dX11_chance_36 e42z
  · rw [if_pos c7] at hf0
    refine r_aload_n C dX11_chance_14 rfl ?_
    refine r_iconst (v := 1) C dX11_chance_15 (by decide) ?_
    obtain ⟨u44, e43, hf0⟩ := ob hf0
    obtain ⟨t45, h46, e47, hf0⟩ := ob2 hf0
    refine r_cV (ci := 11) (rest := []) (st2 := [.int t45]) C (s_X11_deny e47) mk_X11_deny rfl (ck_k e43) (by decide) im_X11_deny sl_X11_deny lk_X11_123 rfl rfl rfl dX11_chance_16 (Nat.le_of_ble_eq_true rfl) ⟨Nat.le_of_ble_eq_true rfl, Nat.le_of_ble_eq_true rfl⟩ ⟨Nat.le_of_ble_eq_true rfl, Nat.le_of_ble_eq_true rfl⟩ ?_
    obtain ⟨t48, e49, hf0⟩ := ob hf0
    obtain ⟨rfl, e49z⟩ := rZ_k e49
    obtain rfl := so hf0
    exact r_zret C dX11_chance_19 e49z
def f_X11_trust_j22 (h : aH) (v0 : Nat) : Option (Int32 × aH) := (ck h 11 v0).bind fun _ => bd2 (f_X11_deny h v0 (1 : Int32)) fun t1 h2 => (rZ t1).bind fun t3 => some (t3, h2)
def f_X11_trust (h : aH) (v0 : Nat) (v1 : Int32) (v2 : Int32) : Option (Int32 × aH) := (gR h 11 v0 11).bind fun t4 => (gI h 1 t4 17).bind fun t5 => (f_X11_below h v1 t5).bind fun t6 => if t6 = 0 then f_X11_trust_j22 h v0 else (f_X11_below h v2 (4 : Int32)).bind fun t7 => if t7 = 0 then f_X11_trust_j22 h v0 else (gR h 11 v0 6).bind fun t8 => (gI h 3 t8 5).bind fun t9 => if t9 = 0 then (ck h 11 v0).bind fun _ => bd2 (f_X11_deny h v0 (6 : Int32)) fun t18 h19 => (rZ t18).bind fun t20 => some (t20, h19) else (gR h 11 v0 6).bind fun t10 => (ck h 3 t10).bind fun _ => (f_X3_weightWith h t10 v1 v2).bind fun t11 => (gR h 11 v0 6).bind fun t12 => (ck h 3 t12).bind fun _ => (f_X3_weightOfAll h t12).bind fun t13 => (ck h 11 v0).bind fun _ => (f_X11_tell h v0 t11 t13).bind fun h14 => (ck h14 11 v0).bind fun _ => bd2 (f_X11_grant h14 v0) fun t15 h16 => (rZ t15).bind fun t17 => some (t17, h16)
theorem s_X11_trust {h : aH} {v0 : Nat} {v1 : Int32} {v2 : Int32} {out : Int32 × aH} (hf0 : f_X11_trust h v0 v1 v2 = some out) : EV 4 yX11_trust cX11_trust 3 (some .boolean) h [.ref v0, .int v1, .int v2] (some (.int out.1)) out.2 0 0 := by
  refine EV.of (own := RX11) (lv0 := [(0, .ref v0), (1, .int v1), (2, .int v2)]) (by decide +kernel) rfl rfl (Nat.le_of_ble_eq_true rfl) ?_
  intro p l e s m args below meth c D cA B Hb C hin
  unfold f_X11_trust at hf0
  have J22 : ∀ (h1 : aH) (t2 : Nat), f_X11_trust_j22 h1 t2 = some out → gW p l e (rmO 4 0 0) s m args below meth c (MQ below (eQ D cA B Hb out.2 (some (.int out.1))) args s 0 0 (fun q => B ≤ q)) D cA B Hb 3 h1 22 [(0, .ref t2)] [] 0 0 := by
    intro h1 t2 hf0
    unfold f_X11_trust_j22 at hf0
    refine r_aload_n C dX11_trust_22 rfl ?_
    refine r_iconst (v := 1) C dX11_trust_23 (by decide) ?_
    obtain ⟨u4, e3, hf0⟩ := ob hf0
    obtain ⟨t5, h6, e7, hf0⟩ := ob2 hf0
    refine r_cV (ci := 11) (rest := []) (st2 := [.int t5]) C (s_X11_deny e7) mk_X11_deny rfl (ck_k e3) (by decide) im_X11_deny sl_X11_deny lk_X11_123 rfl rfl rfl dX11_trust_24 (Nat.le_of_ble_eq_true rfl) ⟨Nat.le_of_ble_eq_true rfl, Nat.le_of_ble_eq_true rfl⟩ ⟨Nat.le_of_ble_eq_true rfl, Nat.le_of_ble_eq_true rfl⟩ ?_
    obtain ⟨t8, e9, hf0⟩ := ob hf0
    obtain ⟨rfl, e9z⟩ := rZ_k e9
    obtain rfl := so hf0
    exact r_zret C dX11_trust_27 e9z
  refine r_iload_n C dX11_trust_0 rfl ?_
  refine r_aload_n C dX11_trust_1 rfl ?_
  obtain ⟨t10, e11, hf0⟩ := ob hf0
  refine r_getR C fk_X11_74 rfl dX11_trust_2 e11 ?_
  obtain ⟨t12, e13, hf0⟩ := ob hf0
  refine r_getI C fk_X11_211 rfl dX11_trust_5 e13 ?_
  obtain ⟨t14, e15, hf0⟩ := ob hf0
  refine r_cS (rest := []) (st2 := [.int t14]) C (s_X11_below e15) mk_X11_below sm_X11_below lk_X11_119 rfl rfl rfl dX11_trust_8 (Nat.le_of_ble_eq_true rfl) ⟨Nat.le_of_ble_eq_true rfl, Nat.le_of_ble_eq_true rfl⟩ ⟨Nat.le_of_ble_eq_true rfl, Nat.le_of_ble_eq_true rfl⟩ ?_
  refine r_ifeq (tgt := 22) C dX11_trust_11 (by decide) (fun c16 => ?_) (fun c16 => ?_)
  · rw [if_pos c16] at hf0
    refine r_subk [0] (lv' := [(0, .ref v0)]) rfl ?_
    exact J22 h v0 hf0
  · rw [if_neg c16] at hf0
    refine r_iload_n C dX11_trust_14 rfl ?_
    refine r_iconst (v := 4) C dX11_trust_15 (by decide) ?_
    obtain ⟨t17, e18, hf0⟩ := ob hf0
    refine r_cS (rest := []) (st2 := [.int t17]) C (s_X11_below e18) mk_X11_below sm_X11_below lk_X11_119 rfl rfl rfl dX11_trust_16 (Nat.le_of_ble_eq_true rfl) ⟨Nat.le_of_ble_eq_true rfl, Nat.le_of_ble_eq_true rfl⟩ ⟨Nat.le_of_ble_eq_true rfl, Nat.le_of_ble_eq_true rfl⟩ ?_
    refine r_ifne (tgt := 28) C dX11_trust_19 (by decide) (fun c19 => ?_) (fun c19 => ?_)
    · rw [if_neg c19] at hf0
      refine r_aload_n C dX11_trust_28 rfl ?_
      obtain ⟨t20, e21, hf0⟩ := ob hf0
      refine r_getR C fk_X11_92 rfl dX11_trust_29 e21 ?_
      obtain ⟨t22, e23, hf0⟩ := ob hf0
      refine r_getI C fk_X11_292 rfl dX11_trust_32 e23 ?_
      refine r_ifne (tgt := 45) C dX11_trust_35 (by decide) (fun c24 => ?_) (fun c24 => ?_)
      · rw [if_neg c24] at hf0
        refine r_aload_n C dX11_trust_45 rfl ?_
        refine r_aload_n C dX11_trust_46 rfl ?_
        obtain ⟨t25, e26, hf0⟩ := ob hf0
        refine r_getR C fk_X11_92 rfl dX11_trust_47 e26 ?_
        refine r_iload_n C dX11_trust_50 rfl ?_
        refine r_iload_n C dX11_trust_51 rfl ?_
        obtain ⟨u28, e27, hf0⟩ := ob hf0
        obtain ⟨t29, e30, hf0⟩ := ob hf0
        refine r_cV (ci := 3) (rest := [.ref v0]) (st2 := [.long t29, .ref v0]) C (s_X3_weightWith e30) mk_X3_weightWith rfl (ck_k e27) (by decide) im_X3_weightWith sl_X3_weightWith lk_X11_316 rfl rfl rfl dX11_trust_52 (Nat.le_of_ble_eq_true rfl) ⟨Nat.le_of_ble_eq_true rfl, Nat.le_of_ble_eq_true rfl⟩ ⟨Nat.le_of_ble_eq_true rfl, Nat.le_of_ble_eq_true rfl⟩ ?_
        refine r_aload_n C dX11_trust_55 rfl ?_
        obtain ⟨t31, e32, hf0⟩ := ob hf0
        refine r_getR C fk_X11_92 rfl dX11_trust_56 e32 ?_
        obtain ⟨u34, e33, hf0⟩ := ob hf0
        obtain ⟨t35, e36, hf0⟩ := ob hf0
        refine r_cV (ci := 3) (rest := [.long t29, .ref v0]) (st2 := [.long t35, .long t29, .ref v0]) C (s_X3_weightOfAll e36) mk_X3_weightOfAll rfl (ck_k e33) (by decide) im_X3_weightOfAll sl_X3_weightOfAll lk_X11_308 rfl rfl rfl dX11_trust_59 (Nat.le_of_ble_eq_true rfl) ⟨Nat.le_of_ble_eq_true rfl, Nat.le_of_ble_eq_true rfl⟩ ⟨Nat.le_of_ble_eq_true rfl, Nat.le_of_ble_eq_true rfl⟩ ?_
        obtain ⟨u38, e37, hf0⟩ := ob hf0
        obtain ⟨h39, e40, hf0⟩ := ob hf0
        refine r_cV (ci := 11) (rest := []) (st2 := []) C (s_X11_tell e40) mk_X11_tell rfl (ck_k e37) (by decide) im_X11_tell sl_X11_tell lk_X11_312 rfl rfl rfl dX11_trust_62 (Nat.le_of_ble_eq_true rfl) ⟨Nat.le_of_ble_eq_true rfl, Nat.le_of_ble_eq_true rfl⟩ ⟨Nat.le_of_ble_eq_true rfl, Nat.le_of_ble_eq_true rfl⟩ ?_
        refine r_aload_n C dX11_trust_65 rfl ?_
        obtain ⟨u42, e41, hf0⟩ := ob hf0
        obtain ⟨t43, h44, e45, hf0⟩ := ob2 hf0
        refine r_cV (ci := 11) (rest := []) (st2 := [.int t43]) C (s_X11_grant e45) mk_X11_grant rfl (ck_k e41) (by decide) im_X11_grant sl_X11_grant lk_X11_130 rfl rfl rfl dX11_trust_66 (Nat.le_of_ble_eq_true rfl) ⟨Nat.le_of_ble_eq_true rfl, Nat.le_of_ble_eq_true rfl⟩ ⟨Nat.le_of_ble_eq_true rfl, Nat.le_of_ble_eq_true rfl⟩ ?_
        obtain ⟨t46, e47, hf0⟩ := ob hf0
        obtain ⟨rfl, e47z⟩ := rZ_k e47
        obtain rfl := so hf0
        exact r_zret C dX11_trust_69 e47z
      · rw [if_pos c24] at hf0
        refine r_aload_n C dX11_trust_38 rfl ?_
        refine r_bipush (v := 6) C dX11_trust_39 (by decide) ?_
        obtain ⟨u49, e48, hf0⟩ := ob hf0
        obtain ⟨t50, h51, e52, hf0⟩ := ob2 hf0
        refine r_cV (ci := 11) (rest := []) (st2 := [.int t50]) C (s_X11_deny e52) mk_X11_deny rfl (ck_k e48) (by decide) im_X11_deny sl_X11_deny lk_X11_123 rfl rfl rfl dX11_trust_41 (Nat.le_of_ble_eq_true rfl) ⟨Nat.le_of_ble_eq_true rfl, Nat.le_of_ble_eq_true rfl⟩ ⟨Nat.le_of_ble_eq_true rfl, Nat.le_of_ble_eq_true rfl⟩ ?_
        obtain ⟨t53, e54, hf0⟩ := ob hf0
        obtain ⟨rfl, e54z⟩ := rZ_k e54
        obtain rfl := so hf0
        exact r_zret C dX11_trust_44 e54z
    · rw [if_pos c19] at hf0
      refine r_subk [0] (lv' := [(0, .ref v0)]) rfl ?_
      exact J22 h v0 hf0
def f_X11_because (h : aH) (v0 : Nat) (v1 : Int32) : Option (Int32 × aH) := (gR h 11 v0 11).bind fun t1 => (gI h 1 t1 16).bind fun t2 => (f_X11_below h v1 t2).bind fun t3 => if t3 = 0 then (ck h 11 v0).bind fun _ => bd2 (f_X11_refuse h v0 (1 : Int32)) fun t13 h14 => some (t13, h14) else (gR h 11 v0 6).bind fun t4 => (ck h 3 t4).bind fun _ => (f_X3_certainty h t4 v1).bind fun t5 => if t5 = (-1 : Int32) then (ck h 11 v0).bind fun _ => bd2 (f_X11_refuse h v0 (6 : Int32)) fun t11 h12 => some (t11, h12) else (gR h 11 v0 7).bind fun t6 => (ck h 9 t6).bind fun _ => bd2 (f_X9_leastProof h t6 v1 t5) fun t7 h8 => (ck h8 11 v0).bind fun _ => bd2 (f_X11_give h8 v0 t7) fun t9 h10 => some (t9, h10)
theorem s_X11_because {h : aH} {v0 : Nat} {v1 : Int32} {out : Int32 × aH} (hf0 : f_X11_because h v0 v1 = some out) : EV 4 yX11_because cX11_because 3 (some .int) h [.ref v0, .int v1] (some (.int out.1)) out.2 0 0 := by
  refine EV.of (own := RX11) (lv0 := [(0, .ref v0), (1, .int v1)]) (by decide +kernel) rfl rfl (Nat.le_of_ble_eq_true rfl) ?_
  intro p l e s m args below meth c D cA B Hb C hin
  unfold f_X11_because at hf0
  refine r_iload_n C dX11_because_0 rfl ?_
  refine r_aload_n C dX11_because_1 rfl ?_
  obtain ⟨t1, e2, hf0⟩ := ob hf0
  refine r_getR C fk_X11_74 rfl dX11_because_2 e2 ?_
  obtain ⟨t3, e4, hf0⟩ := ob hf0
  refine r_getI C fk_X11_208 rfl dX11_because_5 e4 ?_
  obtain ⟨t5, e6, hf0⟩ := ob hf0
  refine r_cS (rest := []) (st2 := [.int t5]) C (s_X11_below e6) mk_X11_below sm_X11_below lk_X11_119 rfl rfl rfl dX11_because_8 (Nat.le_of_ble_eq_true rfl) ⟨Nat.le_of_ble_eq_true rfl, Nat.le_of_ble_eq_true rfl⟩ ⟨Nat.le_of_ble_eq_true rfl, Nat.le_of_ble_eq_true rfl⟩ ?_
  refine r_ifne (tgt := 20) C dX11_because_11 (by decide) (fun c7 => ?_) (fun c7 => ?_)
  · rw [if_neg c7] at hf0
    refine r_aload_n C dX11_because_20 rfl ?_
    obtain ⟨t8, e9, hf0⟩ := ob hf0
    refine r_getR C fk_X11_92 rfl dX11_because_21 e9 ?_
    refine r_iload_n C dX11_because_24 rfl ?_
    obtain ⟨u11, e10, hf0⟩ := ob hf0
    obtain ⟨t12, e13, hf0⟩ := ob hf0
    refine r_cV (ci := 3) (rest := []) (st2 := [.int t12]) C (s_X3_certainty e13) mk_X3_certainty rfl (ck_k e10) (by decide) im_X3_certainty sl_X3_certainty lk_X11_301 rfl rfl rfl dX11_because_25 (Nat.le_of_ble_eq_true rfl) ⟨Nat.le_of_ble_eq_true rfl, Nat.le_of_ble_eq_true rfl⟩ ⟨Nat.le_of_ble_eq_true rfl, Nat.le_of_ble_eq_true rfl⟩ ?_
    refine r_istore_n (lv' := [(2, .int t12), (0, .ref v0), (1, .int v1)]) C dX11_because_28 (by decide) rfl rfl ?_
    refine r_iload_n C dX11_because_29 rfl ?_
    refine r_iconst (v := -1) C dX11_because_30 (by decide) ?_
    refine r_icmp_ne (tgt := 43) C dX11_because_31 (by decide) (fun c14 => ?_) (fun c14 => ?_)
    · rw [if_neg c14] at hf0
      refine r_aload_n C dX11_because_43 rfl ?_
      refine r_aload_n C dX11_because_44 rfl ?_
      obtain ⟨t15, e16, hf0⟩ := ob hf0
      refine r_getR C fk_X11_101 rfl dX11_because_45 e16 ?_
      refine r_iload_n C dX11_because_48 rfl ?_
      refine r_iload_n C dX11_because_49 rfl ?_
      obtain ⟨u18, e17, hf0⟩ := ob hf0
      obtain ⟨t19, h20, e21, hf0⟩ := ob2 hf0
      refine r_cV (ci := 9) (rest := [.ref v0]) (st2 := [.int t19, .ref v0]) C (s_X9_leastProof e21) mk_X9_leastProof rfl (ck_k e17) (by decide) im_X9_leastProof sl_X9_leastProof lk_X11_320 rfl rfl rfl dX11_because_50 (Nat.le_of_ble_eq_true rfl) ⟨Nat.le_of_ble_eq_true rfl, Nat.le_of_ble_eq_true rfl⟩ ⟨Nat.le_of_ble_eq_true rfl, Nat.le_of_ble_eq_true rfl⟩ ?_
      obtain ⟨u23, e22, hf0⟩ := ob hf0
      obtain ⟨t24, h25, e26, hf0⟩ := ob2 hf0
      refine r_cV (ci := 11) (rest := []) (st2 := [.int t24]) C (s_X11_give e26) mk_X11_give rfl (ck_k e22) (by decide) im_X11_give sl_X11_give lk_X11_179 rfl rfl rfl dX11_because_53 (Nat.le_of_ble_eq_true rfl) ⟨Nat.le_of_ble_eq_true rfl, Nat.le_of_ble_eq_true rfl⟩ ⟨Nat.le_of_ble_eq_true rfl, Nat.le_of_ble_eq_true rfl⟩ ?_
      obtain rfl := so hf0
      exact r_iret C dX11_because_56
    · rw [if_pos c14] at hf0
      refine r_aload_n C dX11_because_34 rfl ?_
      refine r_bipush (v := 6) C dX11_because_35 (by decide) ?_
      obtain ⟨u28, e27, hf0⟩ := ob hf0
      obtain ⟨t29, h30, e31, hf0⟩ := ob2 hf0
      refine r_cV (ci := 11) (rest := []) (st2 := [.int t29]) C (s_X11_refuse e31) mk_X11_refuse rfl (ck_k e27) (by decide) im_X11_refuse sl_X11_refuse lk_X11_142 rfl rfl rfl dX11_because_37 (Nat.le_of_ble_eq_true rfl) ⟨Nat.le_of_ble_eq_true rfl, Nat.le_of_ble_eq_true rfl⟩ ⟨Nat.le_of_ble_eq_true rfl, Nat.le_of_ble_eq_true rfl⟩ ?_
      refine r_goto (tgt := 56) C dX11_because_40 (by decide) ?_
      obtain rfl := so hf0
      exact r_iret C dX11_because_56
  · rw [if_pos c7] at hf0
    refine r_aload_n C dX11_because_14 rfl ?_
    refine r_iconst (v := 1) C dX11_because_15 (by decide) ?_
    obtain ⟨u33, e32, hf0⟩ := ob hf0
    obtain ⟨t34, h35, e36, hf0⟩ := ob2 hf0
    refine r_cV (ci := 11) (rest := []) (st2 := [.int t34]) C (s_X11_refuse e36) mk_X11_refuse rfl (ck_k e32) (by decide) im_X11_refuse sl_X11_refuse lk_X11_142 rfl rfl rfl dX11_because_16 (Nat.le_of_ble_eq_true rfl) ⟨Nat.le_of_ble_eq_true rfl, Nat.le_of_ble_eq_true rfl⟩ ⟨Nat.le_of_ble_eq_true rfl, Nat.le_of_ble_eq_true rfl⟩ ?_
    obtain rfl := so hf0
    exact r_iret C dX11_because_19
def f_X11_gave (h : aH) (v0 : Nat) (v1 : Int32) : Option (Int32 × aH) := (gR h 11 v0 6).bind fun t1 => (gR h 3 t1 0).bind fun t2 => (gI h 6 t2 4).bind fun t3 => (f_X11_below h v1 t3).bind fun t4 => if t4 = 0 then (ck h 11 v0).bind fun _ => bd2 (f_X11_refuse h v0 (6 : Int32)) fun t9 h10 => some (t9, h10) else (gR h 11 v0 6).bind fun t5 => (ck h 3 t5).bind fun _ => (f_X3_takenAwayBy h t5 v1).bind fun t6 => (ck h 11 v0).bind fun _ => bd2 (f_X11_give h v0 t6) fun t7 h8 => some (t7, h8)
theorem s_X11_gave {h : aH} {v0 : Nat} {v1 : Int32} {out : Int32 × aH} (hf0 : f_X11_gave h v0 v1 = some out) : EV 3 yX11_gave cX11_gave 2 (some .int) h [.ref v0, .int v1] (some (.int out.1)) out.2 0 0 := by
  refine EV.of (own := RX11) (lv0 := [(0, .ref v0), (1, .int v1)]) (by decide +kernel) rfl rfl (Nat.le_of_ble_eq_true rfl) ?_
  intro p l e s m args below meth c D cA B Hb C hin
  unfold f_X11_gave at hf0
  refine r_iload_n C dX11_gave_0 rfl ?_
  refine r_aload_n C dX11_gave_1 rfl ?_
  obtain ⟨t1, e2, hf0⟩ := ob hf0
  refine r_getR C fk_X11_92 rfl dX11_gave_2 e2 ?_
  obtain ⟨t3, e4, hf0⟩ := ob hf0
  refine r_getR C fk_X11_214 rfl dX11_gave_5 e4 ?_
  obtain ⟨t5, e6, hf0⟩ := ob hf0
  refine r_getI C fk_X11_223 rfl dX11_gave_8 e6 ?_
  obtain ⟨t7, e8, hf0⟩ := ob hf0
  refine r_cS (rest := []) (st2 := [.int t7]) C (s_X11_below e8) mk_X11_below sm_X11_below lk_X11_119 rfl rfl rfl dX11_gave_11 (Nat.le_of_ble_eq_true rfl) ⟨Nat.le_of_ble_eq_true rfl, Nat.le_of_ble_eq_true rfl⟩ ⟨Nat.le_of_ble_eq_true rfl, Nat.le_of_ble_eq_true rfl⟩ ?_
  refine r_ifne (tgt := 24) C dX11_gave_14 (by decide) (fun c9 => ?_) (fun c9 => ?_)
  · rw [if_neg c9] at hf0
    refine r_aload_n C dX11_gave_24 rfl ?_
    refine r_aload_n C dX11_gave_25 rfl ?_
    obtain ⟨t10, e11, hf0⟩ := ob hf0
    refine r_getR C fk_X11_92 rfl dX11_gave_26 e11 ?_
    refine r_iload_n C dX11_gave_29 rfl ?_
    obtain ⟨u13, e12, hf0⟩ := ob hf0
    obtain ⟨t14, e15, hf0⟩ := ob hf0
    refine r_cV (ci := 3) (rest := [.ref v0]) (st2 := [.int t14, .ref v0]) C (s_X3_takenAwayBy e15) mk_X3_takenAwayBy rfl (ck_k e12) (by decide) im_X3_takenAwayBy sl_X3_takenAwayBy lk_X11_323 rfl rfl rfl dX11_gave_30 (Nat.le_of_ble_eq_true rfl) ⟨Nat.le_of_ble_eq_true rfl, Nat.le_of_ble_eq_true rfl⟩ ⟨Nat.le_of_ble_eq_true rfl, Nat.le_of_ble_eq_true rfl⟩ ?_
    obtain ⟨u17, e16, hf0⟩ := ob hf0
    obtain ⟨t18, h19, e20, hf0⟩ := ob2 hf0
    refine r_cV (ci := 11) (rest := []) (st2 := [.int t18]) C (s_X11_give e20) mk_X11_give rfl (ck_k e16) (by decide) im_X11_give sl_X11_give lk_X11_179 rfl rfl rfl dX11_gave_33 (Nat.le_of_ble_eq_true rfl) ⟨Nat.le_of_ble_eq_true rfl, Nat.le_of_ble_eq_true rfl⟩ ⟨Nat.le_of_ble_eq_true rfl, Nat.le_of_ble_eq_true rfl⟩ ?_
    obtain rfl := so hf0
    exact r_iret C dX11_gave_36
  · rw [if_pos c9] at hf0
    refine r_aload_n C dX11_gave_17 rfl ?_
    refine r_bipush (v := 6) C dX11_gave_18 (by decide) ?_
    obtain ⟨u22, e21, hf0⟩ := ob hf0
    obtain ⟨t23, h24, e25, hf0⟩ := ob2 hf0
    refine r_cV (ci := 11) (rest := []) (st2 := [.int t23]) C (s_X11_refuse e25) mk_X11_refuse rfl (ck_k e21) (by decide) im_X11_refuse sl_X11_refuse lk_X11_142 rfl rfl rfl dX11_gave_20 (Nat.le_of_ble_eq_true rfl) ⟨Nat.le_of_ble_eq_true rfl, Nat.le_of_ble_eq_true rfl⟩ ⟨Nat.le_of_ble_eq_true rfl, Nat.le_of_ble_eq_true rfl⟩ ?_
    obtain rfl := so hf0
    exact r_iret C dX11_gave_23
def f_X11_fees (h : aH) (v0 : Nat) : Option (Int32 × aH) := (gR h 11 v0 6).bind fun t1 => (ck h 3 t1).bind fun _ => (f_X3_costs h t1).bind fun t2 => (ck h 11 v0).bind fun _ => bd2 (f_X11_give h v0 t2) fun t3 h4 => some (t3, h4)
theorem s_X11_fees {h : aH} {v0 : Nat} {out : Int32 × aH} (hf0 : f_X11_fees h v0 = some out) : EV 1 yX11_fees cX11_fees 1 (some .int) h [.ref v0] (some (.int out.1)) out.2 0 0 := by
  refine EV.of (own := RX11) (lv0 := [(0, .ref v0)]) (by decide +kernel) rfl rfl (Nat.le_of_ble_eq_true rfl) ?_
  intro p l e s m args below meth c D cA B Hb C hin
  unfold f_X11_fees at hf0
  refine r_aload_n C dX11_fees_0 rfl ?_
  refine r_aload_n C dX11_fees_1 rfl ?_
  obtain ⟨t1, e2, hf0⟩ := ob hf0
  refine r_getR C fk_X11_92 rfl dX11_fees_2 e2 ?_
  obtain ⟨u4, e3, hf0⟩ := ob hf0
  obtain ⟨t5, e6, hf0⟩ := ob hf0
  refine r_cV (ci := 3) (rest := [.ref v0]) (st2 := [.int t5, .ref v0]) C (s_X3_costs e6) mk_X3_costs rfl (ck_k e3) (by decide) im_X3_costs sl_X3_costs lk_X11_326 rfl rfl rfl dX11_fees_5 (Nat.le_of_ble_eq_true rfl) ⟨Nat.le_of_ble_eq_true rfl, Nat.le_of_ble_eq_true rfl⟩ ⟨Nat.le_of_ble_eq_true rfl, Nat.le_of_ble_eq_true rfl⟩ ?_
  obtain ⟨u8, e7, hf0⟩ := ob hf0
  obtain ⟨t9, h10, e11, hf0⟩ := ob2 hf0
  refine r_cV (ci := 11) (rest := []) (st2 := [.int t9]) C (s_X11_give e11) mk_X11_give rfl (ck_k e7) (by decide) im_X11_give sl_X11_give lk_X11_179 rfl rfl rfl dX11_fees_8 (Nat.le_of_ble_eq_true rfl) ⟨Nat.le_of_ble_eq_true rfl, Nat.le_of_ble_eq_true rfl⟩ ⟨Nat.le_of_ble_eq_true rfl, Nat.le_of_ble_eq_true rfl⟩ ?_
  obtain rfl := so hf0
  exact r_iret C dX11_fees_11
def f_X11_worst_j28 (h : aH) (v0 : Nat) : Option (Int32 × aH) := (ck h 11 v0).bind fun _ => bd2 (f_X11_refuse h v0 (1 : Int32)) fun t1 h2 => some (t1, h2)
def f_X11_worst (h : aH) (v0 : Nat) (v1 : Int32) (v2 : Int32) : Option (Int32 × aH) := (gR h 11 v0 11).bind fun t3 => (gI h 1 t3 17).bind fun t4 => (f_X11_below h v1 t4).bind fun t5 => if t5 = 0 then f_X11_worst_j28 h v0 else (gR h 11 v0 11).bind fun t6 => (gI h 1 t6 16).bind fun t7 => (f_X11_below h v2 t7).bind fun t8 => if t8 = 0 then f_X11_worst_j28 h v0 else (gR h 11 v0 6).bind fun t9 => (gI h 3 t9 5).bind fun t10 => if t10 = 0 then (ck h 11 v0).bind fun _ => bd2 (f_X11_refuse h v0 (6 : Int32)) fun t20 h21 => some (t20, h21) else (gR h 11 v0 6).bind fun t11 => (ck h 3 t11).bind fun _ => (f_X3_wasPut h t11 v2).bind fun t12 => if t12 = 0 then (gR h 11 v0 6).bind fun t13 => (ck h 3 t13).bind fun _ => bd2 (f_X3_mostLeftBehind h t13 v1 v2) fun t14 h15 => (ck h15 11 v0).bind fun _ => bd2 (f_X11_give h15 v0 t14) fun t16 h17 => some (t16, h17) else (ck h 11 v0).bind fun _ => bd2 (f_X11_refuse h v0 (7 : Int32)) fun t18 h19 => some (t18, h19)
theorem s_X11_worst {h : aH} {v0 : Nat} {v1 : Int32} {v2 : Int32} {out : Int32 × aH} (hf0 : f_X11_worst h v0 v1 v2 = some out) : EV 2 yX11_worst cX11_worst 3 (some .int) h [.ref v0, .int v1, .int v2] (some (.int out.1)) out.2 0 0 := by
  refine EV.of (own := RX11) (lv0 := [(0, .ref v0), (1, .int v1), (2, .int v2)]) (by decide +kernel) rfl rfl (Nat.le_of_ble_eq_true rfl) ?_
  intro p l e s m args below meth c D cA B Hb C hin
  unfold f_X11_worst at hf0
  have J28 : ∀ (h1 : aH) (t2 : Nat), f_X11_worst_j28 h1 t2 = some out → gW p l e (rmO 2 0 0) s m args below meth c (MQ below (eQ D cA B Hb out.2 (some (.int out.1))) args s 0 0 (fun q => B ≤ q)) D cA B Hb 3 h1 28 [(0, .ref t2)] [] 0 0 := by
    intro h1 t2 hf0
    unfold f_X11_worst_j28 at hf0
    refine r_aload_n C dX11_worst_28 rfl ?_
    refine r_iconst (v := 1) C dX11_worst_29 (by decide) ?_
    obtain ⟨u4, e3, hf0⟩ := ob hf0
    obtain ⟨t5, h6, e7, hf0⟩ := ob2 hf0
    refine r_cV (ci := 11) (rest := []) (st2 := [.int t5]) C (s_X11_refuse e7) mk_X11_refuse rfl (ck_k e3) (by decide) im_X11_refuse sl_X11_refuse lk_X11_142 rfl rfl rfl dX11_worst_30 (Nat.le_of_ble_eq_true rfl) ⟨Nat.le_of_ble_eq_true rfl, Nat.le_of_ble_eq_true rfl⟩ ⟨Nat.le_of_ble_eq_true rfl, Nat.le_of_ble_eq_true rfl⟩ ?_
    obtain rfl := so hf0
    exact r_iret C dX11_worst_33
  refine r_iload_n C dX11_worst_0 rfl ?_
  refine r_aload_n C dX11_worst_1 rfl ?_
  obtain ⟨t8, e9, hf0⟩ := ob hf0
  refine r_getR C fk_X11_74 rfl dX11_worst_2 e9 ?_
  obtain ⟨t10, e11, hf0⟩ := ob hf0
  refine r_getI C fk_X11_211 rfl dX11_worst_5 e11 ?_
  obtain ⟨t12, e13, hf0⟩ := ob hf0
  refine r_cS (rest := []) (st2 := [.int t12]) C (s_X11_below e13) mk_X11_below sm_X11_below lk_X11_119 rfl rfl rfl dX11_worst_8 (Nat.le_of_ble_eq_true rfl) ⟨Nat.le_of_ble_eq_true rfl, Nat.le_of_ble_eq_true rfl⟩ ⟨Nat.le_of_ble_eq_true rfl, Nat.le_of_ble_eq_true rfl⟩ ?_
  refine r_ifeq (tgt := 28) C dX11_worst_11 (by decide) (fun c14 => ?_) (fun c14 => ?_)
  · rw [if_pos c14] at hf0
    refine r_subk [0] (lv' := [(0, .ref v0)]) rfl ?_
    exact J28 h v0 hf0
  · rw [if_neg c14] at hf0
    refine r_iload_n C dX11_worst_14 rfl ?_
    refine r_aload_n C dX11_worst_15 rfl ?_
    obtain ⟨t15, e16, hf0⟩ := ob hf0
    refine r_getR C fk_X11_74 rfl dX11_worst_16 e16 ?_
    obtain ⟨t17, e18, hf0⟩ := ob hf0
    refine r_getI C fk_X11_208 rfl dX11_worst_19 e18 ?_
    obtain ⟨t19, e20, hf0⟩ := ob hf0
    refine r_cS (rest := []) (st2 := [.int t19]) C (s_X11_below e20) mk_X11_below sm_X11_below lk_X11_119 rfl rfl rfl dX11_worst_22 (Nat.le_of_ble_eq_true rfl) ⟨Nat.le_of_ble_eq_true rfl, Nat.le_of_ble_eq_true rfl⟩ ⟨Nat.le_of_ble_eq_true rfl, Nat.le_of_ble_eq_true rfl⟩ ?_
    refine r_ifne (tgt := 34) C dX11_worst_25 (by decide) (fun c21 => ?_) (fun c21 => ?_)
    · rw [if_neg c21] at hf0
      refine r_aload_n C dX11_worst_34 rfl ?_
      obtain ⟨t22, e23, hf0⟩ := ob hf0
      refine r_getR C fk_X11_92 rfl dX11_worst_35 e23 ?_
      obtain ⟨t24, e25, hf0⟩ := ob hf0
      refine r_getI C fk_X11_292 rfl dX11_worst_38 e25 ?_
      refine r_ifne (tgt := 51) C dX11_worst_41 (by decide) (fun c26 => ?_) (fun c26 => ?_)
      · rw [if_neg c26] at hf0
        refine r_aload_n C dX11_worst_51 rfl ?_
        obtain ⟨t27, e28, hf0⟩ := ob hf0
        refine r_getR C fk_X11_92 rfl dX11_worst_52 e28 ?_
        refine r_iload_n C dX11_worst_55 rfl ?_
        obtain ⟨u30, e29, hf0⟩ := ob hf0
        obtain ⟨t31, e32, hf0⟩ := ob hf0
        refine r_cV (ci := 3) (rest := []) (st2 := [.int t31]) C (s_X3_wasPut e32) mk_X3_wasPut rfl (ck_k e29) (by decide) im_X3_wasPut sl_X3_wasPut lk_X11_270 rfl rfl rfl dX11_worst_56 (Nat.le_of_ble_eq_true rfl) ⟨Nat.le_of_ble_eq_true rfl, Nat.le_of_ble_eq_true rfl⟩ ⟨Nat.le_of_ble_eq_true rfl, Nat.le_of_ble_eq_true rfl⟩ ?_
        refine r_ifeq (tgt := 69) C dX11_worst_59 (by decide) (fun c33 => ?_) (fun c33 => ?_)
        · rw [if_pos c33] at hf0
          refine r_aload_n C dX11_worst_69 rfl ?_
          refine r_aload_n C dX11_worst_70 rfl ?_
          obtain ⟨t34, e35, hf0⟩ := ob hf0
          refine r_getR C fk_X11_92 rfl dX11_worst_71 e35 ?_
          refine r_iload_n C dX11_worst_74 rfl ?_
          refine r_iload_n C dX11_worst_75 rfl ?_
          obtain ⟨u37, e36, hf0⟩ := ob hf0
          obtain ⟨t38, h39, e40, hf0⟩ := ob2 hf0
          refine r_cV (ci := 3) (rest := [.ref v0]) (st2 := [.int t38, .ref v0]) C (s_X3_mostLeftBehind e40) mk_X3_mostLeftBehind rfl (ck_k e36) (by decide) im_X3_mostLeftBehind sl_X3_mostLeftBehind lk_X11_329 rfl rfl rfl dX11_worst_76 (Nat.le_of_ble_eq_true rfl) ⟨Nat.le_of_ble_eq_true rfl, Nat.le_of_ble_eq_true rfl⟩ ⟨Nat.le_of_ble_eq_true rfl, Nat.le_of_ble_eq_true rfl⟩ ?_
          obtain ⟨u42, e41, hf0⟩ := ob hf0
          obtain ⟨t43, h44, e45, hf0⟩ := ob2 hf0
          refine r_cV (ci := 11) (rest := []) (st2 := [.int t43]) C (s_X11_give e45) mk_X11_give rfl (ck_k e41) (by decide) im_X11_give sl_X11_give lk_X11_179 rfl rfl rfl dX11_worst_79 (Nat.le_of_ble_eq_true rfl) ⟨Nat.le_of_ble_eq_true rfl, Nat.le_of_ble_eq_true rfl⟩ ⟨Nat.le_of_ble_eq_true rfl, Nat.le_of_ble_eq_true rfl⟩ ?_
          obtain rfl := so hf0
          exact r_iret C dX11_worst_82
        · rw [if_neg c33] at hf0
          refine r_aload_n C dX11_worst_62 rfl ?_
          refine r_bipush (v := 7) C dX11_worst_63 (by decide) ?_
          obtain ⟨u47, e46, hf0⟩ := ob hf0
          obtain ⟨t48, h49, e50, hf0⟩ := ob2 hf0
          refine r_cV (ci := 11) (rest := []) (st2 := [.int t48]) C (s_X11_refuse e50) mk_X11_refuse rfl (ck_k e46) (by decide) im_X11_refuse sl_X11_refuse lk_X11_142 rfl rfl rfl dX11_worst_65 (Nat.le_of_ble_eq_true rfl) ⟨Nat.le_of_ble_eq_true rfl, Nat.le_of_ble_eq_true rfl⟩ ⟨Nat.le_of_ble_eq_true rfl, Nat.le_of_ble_eq_true rfl⟩ ?_
          obtain rfl := so hf0
          exact r_iret C dX11_worst_68
      · rw [if_pos c26] at hf0
        refine r_aload_n C dX11_worst_44 rfl ?_
        refine r_bipush (v := 6) C dX11_worst_45 (by decide) ?_
        obtain ⟨u52, e51, hf0⟩ := ob hf0
        obtain ⟨t53, h54, e55, hf0⟩ := ob2 hf0
        refine r_cV (ci := 11) (rest := []) (st2 := [.int t53]) C (s_X11_refuse e55) mk_X11_refuse rfl (ck_k e51) (by decide) im_X11_refuse sl_X11_refuse lk_X11_142 rfl rfl rfl dX11_worst_47 (Nat.le_of_ble_eq_true rfl) ⟨Nat.le_of_ble_eq_true rfl, Nat.le_of_ble_eq_true rfl⟩ ⟨Nat.le_of_ble_eq_true rfl, Nat.le_of_ble_eq_true rfl⟩ ?_
        obtain rfl := so hf0
        exact r_iret C dX11_worst_50
    · rw [if_pos c21] at hf0
      refine r_subk [0] (lv' := [(0, .ref v0)]) rfl ?_
      exact J28 h v0 hf0
def f_X11_best (h : aH) (v0 : Nat) (v1 : Int32) : Option (Int32 × aH) := (gR h 11 v0 11).bind fun t1 => (gI h 1 t1 17).bind fun t2 => (f_X11_below h v1 t2).bind fun t3 => if t3 = 0 then (ck h 11 v0).bind fun _ => bd2 (f_X11_refuse h v0 (1 : Int32)) fun t11 h12 => some (t11, h12) else (gR h 11 v0 6).bind fun t4 => (ck h 3 t4).bind fun _ => bd2 (f_X3_bestFor h t4 v1) fun t5 h6 => if t5 = (-1 : Int32) then (ck h6 11 v0).bind fun _ => bd2 (f_X11_refuse h6 v0 (6 : Int32)) fun t9 h10 => some (t9, h10) else (ck h6 11 v0).bind fun _ => bd2 (f_X11_give h6 v0 t5) fun t7 h8 => some (t7, h8)
theorem s_X11_best {h : aH} {v0 : Nat} {v1 : Int32} {out : Int32 × aH} (hf0 : f_X11_best h v0 v1 = some out) : EV 3 yX11_best cX11_best 3 (some .int) h [.ref v0, .int v1] (some (.int out.1)) out.2 0 0 := by
  refine EV.of (own := RX11) (lv0 := [(0, .ref v0), (1, .int v1)]) (by decide +kernel) rfl rfl (Nat.le_of_ble_eq_true rfl) ?_
  intro p l e s m args below meth c D cA B Hb C hin
  unfold f_X11_best at hf0
  refine r_iload_n C dX11_best_0 rfl ?_
  refine r_aload_n C dX11_best_1 rfl ?_
  obtain ⟨t1, e2, hf0⟩ := ob hf0
  refine r_getR C fk_X11_74 rfl dX11_best_2 e2 ?_
  obtain ⟨t3, e4, hf0⟩ := ob hf0
  refine r_getI C fk_X11_211 rfl dX11_best_5 e4 ?_
  obtain ⟨t5, e6, hf0⟩ := ob hf0
  refine r_cS (rest := []) (st2 := [.int t5]) C (s_X11_below e6) mk_X11_below sm_X11_below lk_X11_119 rfl rfl rfl dX11_best_8 (Nat.le_of_ble_eq_true rfl) ⟨Nat.le_of_ble_eq_true rfl, Nat.le_of_ble_eq_true rfl⟩ ⟨Nat.le_of_ble_eq_true rfl, Nat.le_of_ble_eq_true rfl⟩ ?_
  refine r_ifne (tgt := 20) C dX11_best_11 (by decide) (fun c7 => ?_) (fun c7 => ?_)
  · rw [if_neg c7] at hf0
    refine r_aload_n C dX11_best_20 rfl ?_
    obtain ⟨t8, e9, hf0⟩ := ob hf0
    refine r_getR C fk_X11_92 rfl dX11_best_21 e9 ?_
    refine r_iload_n C dX11_best_24 rfl ?_
    obtain ⟨u11, e10, hf0⟩ := ob hf0
    obtain ⟨t12, h13, e14, hf0⟩ := ob2 hf0
    refine r_cV (ci := 3) (rest := []) (st2 := [.int t12]) C (s_X3_bestFor e14) mk_X3_bestFor rfl (ck_k e10) (by decide) im_X3_bestFor sl_X3_bestFor lk_X11_332 rfl rfl rfl dX11_best_25 (Nat.le_of_ble_eq_true rfl) ⟨Nat.le_of_ble_eq_true rfl, Nat.le_of_ble_eq_true rfl⟩ ⟨Nat.le_of_ble_eq_true rfl, Nat.le_of_ble_eq_true rfl⟩ ?_
    refine r_istore_n (lv' := [(2, .int t12), (0, .ref v0), (1, .int v1)]) C dX11_best_28 (by decide) rfl rfl ?_
    refine r_iload_n C dX11_best_29 rfl ?_
    refine r_iconst (v := -1) C dX11_best_30 (by decide) ?_
    refine r_icmp_ne (tgt := 43) C dX11_best_31 (by decide) (fun c15 => ?_) (fun c15 => ?_)
    · rw [if_neg c15] at hf0
      refine r_aload_n C dX11_best_43 rfl ?_
      refine r_iload_n C dX11_best_44 rfl ?_
      obtain ⟨u17, e16, hf0⟩ := ob hf0
      obtain ⟨t18, h19, e20, hf0⟩ := ob2 hf0
      refine r_cV (ci := 11) (rest := []) (st2 := [.int t18]) C (s_X11_give e20) mk_X11_give rfl (ck_k e16) (by decide) im_X11_give sl_X11_give lk_X11_179 rfl rfl rfl dX11_best_45 (Nat.le_of_ble_eq_true rfl) ⟨Nat.le_of_ble_eq_true rfl, Nat.le_of_ble_eq_true rfl⟩ ⟨Nat.le_of_ble_eq_true rfl, Nat.le_of_ble_eq_true rfl⟩ ?_
      obtain rfl := so hf0
      exact r_iret C dX11_best_48
    · rw [if_pos c15] at hf0
      refine r_aload_n C dX11_best_34 rfl ?_
      refine r_bipush (v := 6) C dX11_best_35 (by decide) ?_
      obtain ⟨u22, e21, hf0⟩ := ob hf0
      obtain ⟨t23, h24, e25, hf0⟩ := ob2 hf0
      refine r_cV (ci := 11) (rest := []) (st2 := [.int t23]) C (s_X11_refuse e25) mk_X11_refuse rfl (ck_k e21) (by decide) im_X11_refuse sl_X11_refuse lk_X11_142 rfl rfl rfl dX11_best_37 (Nat.le_of_ble_eq_true rfl) ⟨Nat.le_of_ble_eq_true rfl, Nat.le_of_ble_eq_true rfl⟩ ⟨Nat.le_of_ble_eq_true rfl, Nat.le_of_ble_eq_true rfl⟩ ?_
      refine r_goto (tgt := 48) C dX11_best_40 (by decide) ?_
      obtain rfl := so hf0
      exact r_iret C dX11_best_48
  · rw [if_pos c7] at hf0
    refine r_aload_n C dX11_best_14 rfl ?_
    refine r_iconst (v := 1) C dX11_best_15 (by decide) ?_
    obtain ⟨u27, e26, hf0⟩ := ob hf0
    obtain ⟨t28, h29, e30, hf0⟩ := ob2 hf0
    refine r_cV (ci := 11) (rest := []) (st2 := [.int t28]) C (s_X11_refuse e30) mk_X11_refuse rfl (ck_k e26) (by decide) im_X11_refuse sl_X11_refuse lk_X11_142 rfl rfl rfl dX11_best_16 (Nat.le_of_ble_eq_true rfl) ⟨Nat.le_of_ble_eq_true rfl, Nat.le_of_ble_eq_true rfl⟩ ⟨Nat.le_of_ble_eq_true rfl, Nat.le_of_ble_eq_true rfl⟩ ?_
    obtain rfl := so hf0
    exact r_iret C dX11_best_19
def f_X11_shortest_b102 (v0 : Nat) (v3 : Int32) (v4 : Int32) (h : aH) : Option ((Int32 × aH) ⊕ ((Int32 × Int32 × aH) ⊕ (aH))) := if v3 < v4 then some (.inr (.inr h)) else (gR h 11 v0 7).bind fun t1 => (gR h 11 v0 6).bind fun t2 => (gI h 3 t2 6).bind fun t3 => (ck h 9 t1).bind fun _ => bd2 (f_X9_firstOf h t1 (0 : Int32) v4 t3) fun t4 h5 => if t4 = (-1 : Int32) then (some (v4 + (1 : Int32))).bind fun t6 => some (.inl (t6, h5)) else some (.inr (.inl (v4, t4, h5)))
def f_X11_shortest_l102 (v0 : Nat) (v3 : Int32) (v4 : Int32) (h : aH) : Option ((Int32 × Int32 × aH) ⊕ (aH)) := whileL wN (fun q : Int32 × aH => f_X11_shortest_b102 v0 v3 q.1 q.2) (v4, h)
def f_X11_shortest_j98 (h : aH) (v0 : Nat) (s0 : Int32) : Option (Int32 × aH) := (f_X11_shortest_l102 v0 s0 (1 : Int32) h).bind fun e => match e with | .inl (t7, t8, h9) => (pI h9 11 v0 15 t8).bind fun h10 => (ck h10 11 v0).bind fun _ => bd2 (f_X11_give h10 v0 t7) fun t11 h12 => some (t11, h12) | .inr h13 => (ck h13 11 v0).bind fun _ => bd2 (f_X11_refuse h13 v0 (6 : Int32)) fun t14 h15 => some (t14, h15)
def f_X11_shortest_j39 (h : aH) (v0 : Nat) (v1 : Int32) (v2 : Int32) : Option (Int32 × aH) := (gR h 11 v0 6).bind fun t16 => (gI h 3 t16 5).bind fun t17 => if t17 = 0 then (ck h 11 v0).bind fun _ => bd2 (f_X11_refuse h v0 (6 : Int32)) fun t25 h26 => some (t25, h26) else (gR h 11 v0 6).bind fun t18 => (ck h 3 t18).bind fun _ => (f_X3_certainty h t18 v1).bind fun t19 => if t19 = (-1 : Int32) then (gR h 11 v0 7).bind fun t20 => (ck h 9 t20).bind fun _ => (f_X9_begin h t20 v1 v2).bind fun h21 => if v2 = (-1 : Int32) then f_X11_shortest_j98 h21 v0 (2 : Int32) else f_X11_shortest_j98 h21 v0 (3 : Int32) else (pI h 11 v0 15 (-1 : Int32)).bind fun h22 => (ck h22 11 v0).bind fun _ => bd2 (f_X11_give h22 v0 (0 : Int32)) fun t23 h24 => some (t23, h24)
def f_X11_shortest_j33 (h : aH) (v0 : Nat) : Option (Int32 × aH) := (ck h 11 v0).bind fun _ => bd2 (f_X11_refuse h v0 (1 : Int32)) fun t27 h28 => some (t27, h28)
def f_X11_shortest (h : aH) (v0 : Nat) (v1 : Int32) (v2 : Int32) : Option (Int32 × aH) := (gR h 11 v0 11).bind fun t29 => (gI h 1 t29 16).bind fun t30 => (f_X11_below h v1 t30).bind fun t31 => if t31 = 0 then f_X11_shortest_j33 h v0 else if v2 = (-1 : Int32) then f_X11_shortest_j39 h v0 v1 v2 else (gR h 11 v0 11).bind fun t32 => (gI h 1 t32 17).bind fun t33 => (f_X11_below h v2 t33).bind fun t34 => if t34 = 0 then f_X11_shortest_j33 h v0 else f_X11_shortest_j39 h v0 v1 v2
theorem s_X11_shortest {h : aH} {v0 : Nat} {v1 : Int32} {v2 : Int32} {out : Int32 × aH} (hf0 : f_X11_shortest h v0 v1 v2 = some out) : EV 11 yX11_shortest cX11_shortest 6 (some .int) h [.ref v0, .int v1, .int v2] (some (.int out.1)) out.2 0 0 := by
  refine EV.of (own := RX11) (lv0 := [(0, .ref v0), (1, .int v1), (2, .int v2)]) (by decide +kernel) rfl rfl (Nat.le_of_ble_eq_true rfl) ?_
  intro p l e s m args below meth c D cA B Hb C hin
  unfold f_X11_shortest at hf0
  have J98 : ∀ (h1 : aH) (t2 : Nat) (t3 : Int32), f_X11_shortest_j98 h1 t2 t3 = some out → gW p l e (rmO 11 0 0) s m args below meth c (MQ below (eQ D cA B Hb out.2 (some (.int out.1))) args s 0 0 (fun q => B ≤ q)) D cA B Hb 6 h1 98 [(0, .ref t2)] [.int t3] 0 0 := by
    intro h1 t2 t3 hf0
    unfold f_X11_shortest_j98 at hf0
    refine r_istore_n (lv' := [(3, .int t3), (0, .ref t2)]) C dX11_shortest_98 (by decide) rfl rfl ?_
    refine r_iconst (v := 1) C dX11_shortest_99 (by decide) ?_
    refine r_istore (lv' := [(4, .int (1 : Int32)), (3, .int t3), (0, .ref t2)]) C dX11_shortest_100 (by decide) rfl rfl ?_
    obtain ⟨y4, hl102, hf0⟩ := ob hf0
    have L102 : ∀ (n : Nat) (t5 : Int32) (h6 : aH), whileL n (fun q : Int32 × aH => f_X11_shortest_b102 t2 t3 q.1 q.2) (t5, h6) = some y4 → gW p l e (rmO 11 0 0) s m args below meth c (MQ below (eQ D cA B Hb out.2 (some (.int out.1))) args s 0 0 (fun q => B ≤ q)) D cA B Hb 6 h6 102 [(0, .ref t2), (3, .int t3), (4, .int t5)] [] 0 0 := by
      intro n
      induction n with
      | zero => intro t5 h6 hz; cases hz
      | succ n ih102 =>
        intro t5 h6 hz
        obtain ⟨x102, hf1, hk102⟩ := wl hz
        replace hf1 : f_X11_shortest_b102 t2 t3 t5 h6 = some x102 := hf1
        unfold f_X11_shortest_b102 at hf1
        refine r_iload C dX11_shortest_102 rfl ?_
        refine r_iload_n C dX11_shortest_104 rfl ?_
        refine r_icmp_gt (tgt := 152) C dX11_shortest_105 (by decide) (fun c7 => ?_) (fun c7 => ?_)
        · rw [if_pos c7] at hf1
          obtain rfl := so hf1
          obtain rfl := so (show some (.inr h6 : (Int32 × Int32 × aH) ⊕ (aH)) = some y4 from hk102)
          dsimp only at hf0
          refine r_aload_n C dX11_shortest_152 rfl ?_
          refine r_bipush (v := 6) C dX11_shortest_153 (by decide) ?_
          obtain ⟨u9, e8, hf0⟩ := ob hf0
          obtain ⟨t10, h11, e12, hf0⟩ := ob2 hf0
          refine r_cV (ci := 11) (rest := []) (st2 := [.int t10]) C (s_X11_refuse e12) mk_X11_refuse rfl (ck_k e8) (by decide) im_X11_refuse sl_X11_refuse lk_X11_142 rfl rfl rfl dX11_shortest_155 (Nat.le_of_ble_eq_true rfl) ⟨Nat.le_of_ble_eq_true rfl, Nat.le_of_ble_eq_true rfl⟩ ⟨Nat.le_of_ble_eq_true rfl, Nat.le_of_ble_eq_true rfl⟩ ?_
          obtain rfl := so hf0
          exact r_iret C dX11_shortest_158
        · rw [if_neg c7] at hf1
          refine r_aload_n C dX11_shortest_108 rfl ?_
          obtain ⟨t13, e14, hf1⟩ := ob hf1
          refine r_getR C fk_X11_101 rfl dX11_shortest_109 e14 ?_
          refine r_iconst (v := 0) C dX11_shortest_112 (by decide) ?_
          refine r_iload C dX11_shortest_113 rfl ?_
          refine r_aload_n C dX11_shortest_115 rfl ?_
          obtain ⟨t15, e16, hf1⟩ := ob hf1
          refine r_getR C fk_X11_92 rfl dX11_shortest_116 e16 ?_
          obtain ⟨t17, e18, hf1⟩ := ob hf1
          refine r_getI C fk_X11_338 rfl dX11_shortest_119 e18 ?_
          obtain ⟨u20, e19, hf1⟩ := ob hf1
          obtain ⟨t21, h22, e23, hf1⟩ := ob2 hf1
          refine r_cVN (ci := 9) (rest := []) (st2 := [.int t21]) C (s_X9_firstOf e23) mk_X9_firstOf rfl (ck_k e19) (by decide) im_X9_firstOf sl_X9_firstOf ln_X11_341 rfl rfl rfl dX11_shortest_122 (Nat.le_of_ble_eq_true rfl) ⟨Nat.le_of_ble_eq_true rfl, Nat.le_of_ble_eq_true rfl⟩ ⟨Nat.le_of_ble_eq_true rfl, Nat.le_of_ble_eq_true rfl⟩ ?_
          refine r_istore (lv' := [(5, .int t21), (0, .ref t2), (3, .int t3), (4, .int t5)]) C dX11_shortest_125 (by decide) rfl rfl ?_
          refine r_iload C dX11_shortest_127 rfl ?_
          refine r_iconst (v := -1) C dX11_shortest_129 (by decide) ?_
          refine r_icmp_eq (tgt := 146) C dX11_shortest_130 (by decide) (fun c24 => ?_) (fun c24 => ?_)
          · rw [if_pos c24] at hf1
            obtain ⟨t25, e26, hf1⟩ := ob hf1
            refine r_iinc (lv' := [(4, .int t25), (5, .int t21), (0, .ref t2), (3, .int t3)]) C dX11_shortest_146 rfl e26 (by decide) rfl ?_
            refine r_goto (tgt := 102) C dX11_shortest_149 (by decide) ?_
            obtain rfl := so hf1
            refine r_subk [2, 3, 0] (lv' := [(0, .ref t2), (3, .int t3), (4, .int t25)]) rfl ?_
            exact ih102 t25 h22 hk102
          · rw [if_neg c24] at hf1
            obtain rfl := so hf1
            obtain rfl := so (show some (.inl (t5, t21, h22) : (Int32 × Int32 × aH) ⊕ (aH)) = some y4 from hk102)
            dsimp only at hf0
            refine r_aload_n C dX11_shortest_133 rfl ?_
            refine r_iload C dX11_shortest_134 rfl ?_
            obtain ⟨h27, e28, hf0⟩ := ob hf0
            refine r_putI C fk_X11_56 dX11_shortest_136 e28 ?_
            refine r_aload_n C dX11_shortest_139 rfl ?_
            refine r_iload C dX11_shortest_140 rfl ?_
            obtain ⟨u30, e29, hf0⟩ := ob hf0
            obtain ⟨t31, h32, e33, hf0⟩ := ob2 hf0
            refine r_cV (ci := 11) (rest := []) (st2 := [.int t31]) C (s_X11_give e33) mk_X11_give rfl (ck_k e29) (by decide) im_X11_give sl_X11_give lk_X11_179 rfl rfl rfl dX11_shortest_142 (Nat.le_of_ble_eq_true rfl) ⟨Nat.le_of_ble_eq_true rfl, Nat.le_of_ble_eq_true rfl⟩ ⟨Nat.le_of_ble_eq_true rfl, Nat.le_of_ble_eq_true rfl⟩ ?_
            obtain rfl := so hf0
            exact r_iret C dX11_shortest_145
    refine r_subk [2, 1, 0] (lv' := [(0, .ref t2), (3, .int t3), (4, .int (1 : Int32))]) rfl ?_
    exact L102 wN (1 : Int32) h1 hl102
  have J39 : ∀ (h34 : aH) (t35 : Nat) (t36 : Int32) (t37 : Int32), f_X11_shortest_j39 h34 t35 t36 t37 = some out → gW p l e (rmO 11 0 0) s m args below meth c (MQ below (eQ D cA B Hb out.2 (some (.int out.1))) args s 0 0 (fun q => B ≤ q)) D cA B Hb 6 h34 39 [(0, .ref t35), (1, .int t36), (2, .int t37)] [] 0 0 := by
    intro h34 t35 t36 t37 hf0
    unfold f_X11_shortest_j39 at hf0
    refine r_aload_n C dX11_shortest_39 rfl ?_
    obtain ⟨t38, e39, hf0⟩ := ob hf0
    refine r_getR C fk_X11_92 rfl dX11_shortest_40 e39 ?_
    obtain ⟨t40, e41, hf0⟩ := ob hf0
    refine r_getI C fk_X11_292 rfl dX11_shortest_43 e41 ?_
    refine r_ifne (tgt := 56) C dX11_shortest_46 (by decide) (fun c42 => ?_) (fun c42 => ?_)
    · rw [if_neg c42] at hf0
      refine r_aload_n C dX11_shortest_56 rfl ?_
      obtain ⟨t43, e44, hf0⟩ := ob hf0
      refine r_getR C fk_X11_92 rfl dX11_shortest_57 e44 ?_
      refine r_iload_n C dX11_shortest_60 rfl ?_
      obtain ⟨u46, e45, hf0⟩ := ob hf0
      obtain ⟨t47, e48, hf0⟩ := ob hf0
      refine r_cV (ci := 3) (rest := []) (st2 := [.int t47]) C (s_X3_certainty e48) mk_X3_certainty rfl (ck_k e45) (by decide) im_X3_certainty sl_X3_certainty lk_X11_301 rfl rfl rfl dX11_shortest_61 (Nat.le_of_ble_eq_true rfl) ⟨Nat.le_of_ble_eq_true rfl, Nat.le_of_ble_eq_true rfl⟩ ⟨Nat.le_of_ble_eq_true rfl, Nat.le_of_ble_eq_true rfl⟩ ?_
      refine r_iconst (v := -1) C dX11_shortest_64 (by decide) ?_
      refine r_icmp_eq (tgt := 79) C dX11_shortest_65 (by decide) (fun c49 => ?_) (fun c49 => ?_)
      · rw [if_pos c49] at hf0
        refine r_aload_n C dX11_shortest_79 rfl ?_
        obtain ⟨t50, e51, hf0⟩ := ob hf0
        refine r_getR C fk_X11_101 rfl dX11_shortest_80 e51 ?_
        refine r_iload_n C dX11_shortest_83 rfl ?_
        refine r_iload_n C dX11_shortest_84 rfl ?_
        obtain ⟨u53, e52, hf0⟩ := ob hf0
        obtain ⟨h54, e55, hf0⟩ := ob hf0
        refine r_cV (ci := 9) (rest := []) (st2 := []) C (s_X9_begin e55) mk_X9_begin rfl (ck_k e52) (by decide) im_X9_begin sl_X9_begin lk_X11_335 rfl rfl rfl dX11_shortest_85 (Nat.le_of_ble_eq_true rfl) ⟨Nat.le_of_ble_eq_true rfl, Nat.le_of_ble_eq_true rfl⟩ ⟨Nat.le_of_ble_eq_true rfl, Nat.le_of_ble_eq_true rfl⟩ ?_
        refine r_iload_n C dX11_shortest_88 rfl ?_
        refine r_iconst (v := -1) C dX11_shortest_89 (by decide) ?_
        refine r_icmp_ne (tgt := 97) C dX11_shortest_90 (by decide) (fun c56 => ?_) (fun c56 => ?_)
        · rw [if_neg c56] at hf0
          refine r_iconst (v := 3) C dX11_shortest_97 (by decide) ?_
          refine r_subk [0] (lv' := [(0, .ref t35)]) rfl ?_
          exact J98 h54 t35 (3 : Int32) hf0
        · rw [if_pos c56] at hf0
          refine r_iconst (v := 2) C dX11_shortest_93 (by decide) ?_
          refine r_goto (tgt := 98) C dX11_shortest_94 (by decide) ?_
          refine r_subk [0] (lv' := [(0, .ref t35)]) rfl ?_
          exact J98 h54 t35 (2 : Int32) hf0
      · rw [if_neg c49] at hf0
        refine r_aload_n C dX11_shortest_68 rfl ?_
        refine r_iconst (v := -1) C dX11_shortest_69 (by decide) ?_
        obtain ⟨h57, e58, hf0⟩ := ob hf0
        refine r_putI C fk_X11_56 dX11_shortest_70 e58 ?_
        refine r_aload_n C dX11_shortest_73 rfl ?_
        refine r_iconst (v := 0) C dX11_shortest_74 (by decide) ?_
        obtain ⟨u60, e59, hf0⟩ := ob hf0
        obtain ⟨t61, h62, e63, hf0⟩ := ob2 hf0
        refine r_cV (ci := 11) (rest := []) (st2 := [.int t61]) C (s_X11_give e63) mk_X11_give rfl (ck_k e59) (by decide) im_X11_give sl_X11_give lk_X11_179 rfl rfl rfl dX11_shortest_75 (Nat.le_of_ble_eq_true rfl) ⟨Nat.le_of_ble_eq_true rfl, Nat.le_of_ble_eq_true rfl⟩ ⟨Nat.le_of_ble_eq_true rfl, Nat.le_of_ble_eq_true rfl⟩ ?_
        obtain rfl := so hf0
        exact r_iret C dX11_shortest_78
    · rw [if_pos c42] at hf0
      refine r_aload_n C dX11_shortest_49 rfl ?_
      refine r_bipush (v := 6) C dX11_shortest_50 (by decide) ?_
      obtain ⟨u65, e64, hf0⟩ := ob hf0
      obtain ⟨t66, h67, e68, hf0⟩ := ob2 hf0
      refine r_cV (ci := 11) (rest := []) (st2 := [.int t66]) C (s_X11_refuse e68) mk_X11_refuse rfl (ck_k e64) (by decide) im_X11_refuse sl_X11_refuse lk_X11_142 rfl rfl rfl dX11_shortest_52 (Nat.le_of_ble_eq_true rfl) ⟨Nat.le_of_ble_eq_true rfl, Nat.le_of_ble_eq_true rfl⟩ ⟨Nat.le_of_ble_eq_true rfl, Nat.le_of_ble_eq_true rfl⟩ ?_
      obtain rfl := so hf0
      exact r_iret C dX11_shortest_55
  have J33 : ∀ (h69 : aH) (t70 : Nat), f_X11_shortest_j33 h69 t70 = some out → gW p l e (rmO 11 0 0) s m args below meth c (MQ below (eQ D cA B Hb out.2 (some (.int out.1))) args s 0 0 (fun q => B ≤ q)) D cA B Hb 6 h69 33 [(0, .ref t70)] [] 0 0 := by
    intro h69 t70 hf0
    unfold f_X11_shortest_j33 at hf0
    refine r_aload_n C dX11_shortest_33 rfl ?_
    refine r_iconst (v := 1) C dX11_shortest_34 (by decide) ?_
    obtain ⟨u72, e71, hf0⟩ := ob hf0
    obtain ⟨t73, h74, e75, hf0⟩ := ob2 hf0
    refine r_cV (ci := 11) (rest := []) (st2 := [.int t73]) C (s_X11_refuse e75) mk_X11_refuse rfl (ck_k e71) (by decide) im_X11_refuse sl_X11_refuse lk_X11_142 rfl rfl rfl dX11_shortest_35 (Nat.le_of_ble_eq_true rfl) ⟨Nat.le_of_ble_eq_true rfl, Nat.le_of_ble_eq_true rfl⟩ ⟨Nat.le_of_ble_eq_true rfl, Nat.le_of_ble_eq_true rfl⟩ ?_
    obtain rfl := so hf0
    exact r_iret C dX11_shortest_38
  refine r_iload_n C dX11_shortest_0 rfl ?_
  refine r_aload_n C dX11_shortest_1 rfl ?_
  obtain ⟨t76, e77, hf0⟩ := ob hf0
  refine r_getR C fk_X11_74 rfl dX11_shortest_2 e77 ?_
  obtain ⟨t78, e79, hf0⟩ := ob hf0
  refine r_getI C fk_X11_208 rfl dX11_shortest_5 e79 ?_
  obtain ⟨t80, e81, hf0⟩ := ob hf0
  refine r_cS (rest := []) (st2 := [.int t80]) C (s_X11_below e81) mk_X11_below sm_X11_below lk_X11_119 rfl rfl rfl dX11_shortest_8 (Nat.le_of_ble_eq_true rfl) ⟨Nat.le_of_ble_eq_true rfl, Nat.le_of_ble_eq_true rfl⟩ ⟨Nat.le_of_ble_eq_true rfl, Nat.le_of_ble_eq_true rfl⟩ ?_
  refine r_ifeq (tgt := 33) C dX11_shortest_11 (by decide) (fun c82 => ?_) (fun c82 => ?_)
  · rw [if_pos c82] at hf0
    refine r_subk [0] (lv' := [(0, .ref v0)]) rfl ?_
    exact J33 h v0 hf0
  · rw [if_neg c82] at hf0
    refine r_iload_n C dX11_shortest_14 rfl ?_
    refine r_iconst (v := -1) C dX11_shortest_15 (by decide) ?_
    refine r_icmp_eq (tgt := 39) C dX11_shortest_16 (by decide) (fun c83 => ?_) (fun c83 => ?_)
    · rw [if_pos c83] at hf0
      exact J39 h v0 v1 v2 hf0
    · rw [if_neg c83] at hf0
      refine r_iload_n C dX11_shortest_19 rfl ?_
      refine r_aload_n C dX11_shortest_20 rfl ?_
      obtain ⟨t84, e85, hf0⟩ := ob hf0
      refine r_getR C fk_X11_74 rfl dX11_shortest_21 e85 ?_
      obtain ⟨t86, e87, hf0⟩ := ob hf0
      refine r_getI C fk_X11_211 rfl dX11_shortest_24 e87 ?_
      obtain ⟨t88, e89, hf0⟩ := ob hf0
      refine r_cS (rest := []) (st2 := [.int t88]) C (s_X11_below e89) mk_X11_below sm_X11_below lk_X11_119 rfl rfl rfl dX11_shortest_27 (Nat.le_of_ble_eq_true rfl) ⟨Nat.le_of_ble_eq_true rfl, Nat.le_of_ble_eq_true rfl⟩ ⟨Nat.le_of_ble_eq_true rfl, Nat.le_of_ble_eq_true rfl⟩ ?_
      refine r_ifne (tgt := 39) C dX11_shortest_30 (by decide) (fun c90 => ?_) (fun c90 => ?_)
      · rw [if_neg c90] at hf0
        exact J39 h v0 v1 v2 hf0
      · rw [if_pos c90] at hf0
        refine r_subk [0] (lv' := [(0, .ref v0)]) rfl ?_
        exact J33 h v0 hf0
def f_X11_shortestFirst_j51 (h : aH) (s0 : Nat) (s1 : Int32) : Option (Int32 × aH) := (ck h 11 s0).bind fun _ => bd2 (f_X11_give h s0 s1) fun t1 h2 => some (t1, h2)
def f_X11_shortestFirst (h : aH) (v0 : Nat) (v1 : Int32) : Option (Int32 × aH) := (f_X11_below h v1 (2 : Int32)).bind fun t3 => if t3 = 0 then (ck h 11 v0).bind fun _ => bd2 (f_X11_refuse h v0 (1 : Int32)) fun t9 h10 => some (t9, h10) else (gI h 11 v0 15).bind fun t4 => if t4 = (-1 : Int32) then (ck h 11 v0).bind fun _ => bd2 (f_X11_refuse h v0 (6 : Int32)) fun t7 h8 => some (t7, h8) else if v1 = 0 then (gI h 11 v0 15).bind fun t6 => (nz (12 : Int32)).bind fun _ => f_X11_shortestFirst_j51 h v0 (t6 / (12 : Int32)) else (gI h 11 v0 15).bind fun t5 => (nz (12 : Int32)).bind fun _ => f_X11_shortestFirst_j51 h v0 (t5 - t5 / (12 : Int32) * (12 : Int32))
theorem s_X11_shortestFirst {h : aH} {v0 : Nat} {v1 : Int32} {out : Int32 × aH} (hf0 : f_X11_shortestFirst h v0 v1 = some out) : EV 1 yX11_shortestFirst cX11_shortestFirst 2 (some .int) h [.ref v0, .int v1] (some (.int out.1)) out.2 0 0 := by
  refine EV.of (own := RX11) (lv0 := [(0, .ref v0), (1, .int v1)]) (by decide +kernel) rfl rfl (Nat.le_of_ble_eq_true rfl) ?_
  intro p l e s m args below meth c D cA B Hb C hin
  unfold f_X11_shortestFirst at hf0
  have J51 : ∀ (h1 : aH) (t2 : Nat) (t3 : Int32), f_X11_shortestFirst_j51 h1 t2 t3 = some out → gW p l e (rmO 1 0 0) s m args below meth c (MQ below (eQ D cA B Hb out.2 (some (.int out.1))) args s 0 0 (fun q => B ≤ q)) D cA B Hb 2 h1 51 [] [.int t3, .ref t2] 0 0 := by
    intro h1 t2 t3 hf0
    unfold f_X11_shortestFirst_j51 at hf0
    obtain ⟨u5, e4, hf0⟩ := ob hf0
    obtain ⟨t6, h7, e8, hf0⟩ := ob2 hf0
    refine r_cV (ci := 11) (rest := []) (st2 := [.int t6]) C (s_X11_give e8) mk_X11_give rfl (ck_k e4) (by decide) im_X11_give sl_X11_give lk_X11_179 rfl rfl rfl dX11_shortestFirst_51 (Nat.le_of_ble_eq_true rfl) ⟨Nat.le_of_ble_eq_true rfl, Nat.le_of_ble_eq_true rfl⟩ ⟨Nat.le_of_ble_eq_true rfl, Nat.le_of_ble_eq_true rfl⟩ ?_
    obtain rfl := so hf0
    exact r_iret C dX11_shortestFirst_54
  refine r_iload_n C dX11_shortestFirst_0 rfl ?_
  refine r_iconst (v := 2) C dX11_shortestFirst_1 (by decide) ?_
  obtain ⟨t9, e10, hf0⟩ := ob hf0
  refine r_cS (rest := []) (st2 := [.int t9]) C (s_X11_below e10) mk_X11_below sm_X11_below lk_X11_119 rfl rfl rfl dX11_shortestFirst_2 (Nat.le_of_ble_eq_true rfl) ⟨Nat.le_of_ble_eq_true rfl, Nat.le_of_ble_eq_true rfl⟩ ⟨Nat.le_of_ble_eq_true rfl, Nat.le_of_ble_eq_true rfl⟩ ?_
  refine r_ifne (tgt := 14) C dX11_shortestFirst_5 (by decide) (fun c11 => ?_) (fun c11 => ?_)
  · rw [if_neg c11] at hf0
    refine r_aload_n C dX11_shortestFirst_14 rfl ?_
    obtain ⟨t12, e13, hf0⟩ := ob hf0
    refine r_getI C fk_X11_56 rfl dX11_shortestFirst_15 e13 ?_
    refine r_iconst (v := -1) C dX11_shortestFirst_18 (by decide) ?_
    refine r_icmp_ne (tgt := 29) C dX11_shortestFirst_19 (by decide) (fun c14 => ?_) (fun c14 => ?_)
    · rw [if_neg c14] at hf0
      refine r_aload_n C dX11_shortestFirst_29 rfl ?_
      refine r_iload_n C dX11_shortestFirst_30 rfl ?_
      refine r_ifne (tgt := 44) C dX11_shortestFirst_31 (by decide) (fun c15 => ?_) (fun c15 => ?_)
      · rw [if_neg c15] at hf0
        refine r_aload_n C dX11_shortestFirst_44 rfl ?_
        obtain ⟨t16, e17, hf0⟩ := ob hf0
        refine r_getI C fk_X11_56 rfl dX11_shortestFirst_45 e17 ?_
        refine r_bipush (v := 12) C dX11_shortestFirst_48 (by decide) ?_
        obtain ⟨u19, e18, hf0⟩ := ob hf0
        refine r_irem C dX11_shortestFirst_50 (nz_k e18) ?_
        refine r_subk [] (lv' := []) rfl ?_
        exact J51 h v0 (t16 - t16 / (12 : Int32) * (12 : Int32)) hf0
      · rw [if_pos c15] at hf0
        refine r_aload_n C dX11_shortestFirst_34 rfl ?_
        obtain ⟨t20, e21, hf0⟩ := ob hf0
        refine r_getI C fk_X11_56 rfl dX11_shortestFirst_35 e21 ?_
        refine r_bipush (v := 12) C dX11_shortestFirst_38 (by decide) ?_
        obtain ⟨u23, e22, hf0⟩ := ob hf0
        refine r_idiv C dX11_shortestFirst_40 (nz_k e22) ?_
        refine r_goto (tgt := 51) C dX11_shortestFirst_41 (by decide) ?_
        refine r_subk [] (lv' := []) rfl ?_
        exact J51 h v0 (t20 / (12 : Int32)) hf0
    · rw [if_pos c14] at hf0
      refine r_aload_n C dX11_shortestFirst_22 rfl ?_
      refine r_bipush (v := 6) C dX11_shortestFirst_23 (by decide) ?_
      obtain ⟨u25, e24, hf0⟩ := ob hf0
      obtain ⟨t26, h27, e28, hf0⟩ := ob2 hf0
      refine r_cV (ci := 11) (rest := []) (st2 := [.int t26]) C (s_X11_refuse e28) mk_X11_refuse rfl (ck_k e24) (by decide) im_X11_refuse sl_X11_refuse lk_X11_142 rfl rfl rfl dX11_shortestFirst_25 (Nat.le_of_ble_eq_true rfl) ⟨Nat.le_of_ble_eq_true rfl, Nat.le_of_ble_eq_true rfl⟩ ⟨Nat.le_of_ble_eq_true rfl, Nat.le_of_ble_eq_true rfl⟩ ?_
      obtain rfl := so hf0
      exact r_iret C dX11_shortestFirst_28
  · rw [if_pos c11] at hf0
    refine r_aload_n C dX11_shortestFirst_8 rfl ?_
    refine r_iconst (v := 1) C dX11_shortestFirst_9 (by decide) ?_
    obtain ⟨u30, e29, hf0⟩ := ob hf0
    obtain ⟨t31, h32, e33, hf0⟩ := ob2 hf0
    refine r_cV (ci := 11) (rest := []) (st2 := [.int t31]) C (s_X11_refuse e33) mk_X11_refuse rfl (ck_k e29) (by decide) im_X11_refuse sl_X11_refuse lk_X11_142 rfl rfl rfl dX11_shortestFirst_10 (Nat.le_of_ble_eq_true rfl) ⟨Nat.le_of_ble_eq_true rfl, Nat.le_of_ble_eq_true rfl⟩ ⟨Nat.le_of_ble_eq_true rfl, Nat.le_of_ble_eq_true rfl⟩ ?_
    obtain rfl := so hf0
    exact r_iret C dX11_shortestFirst_13
def f_X11_settled_j41 (h : aH) (v0 : Nat) (v1 : Int32) (v2 : Int32) : Option ((Int32 × Int32) ⊕ (Int32)) := (some (v2 + (1 : Int32))).bind fun t1 => some (.inl (v1, t1))
def f_X11_settled_b4 (h : aH) (v0 : Nat) (v1 : Int32) (v2 : Int32) : Option ((Int32 × Int32) ⊕ (Int32)) := (gR h 11 v0 11).bind fun t2 => (gI h 1 t2 16).bind fun t3 => if t3 ≤ v2 then some (.inr v1) else (gR h 11 v0 6).bind fun t4 => (ck h 3 t4).bind fun _ => (f_X3_wasPut h t4 v2).bind fun t5 => if t5 = 0 then (gR h 11 v0 6).bind fun t6 => (ck h 3 t6).bind fun _ => (f_X3_certainty h t6 v2).bind fun t7 => if t7 = (-1 : Int32) then f_X11_settled_j41 h v0 v1 v2 else (some (v1 + (1 : Int32))).bind fun t8 => f_X11_settled_j41 h v0 t8 v2 else f_X11_settled_j41 h v0 v1 v2
def f_X11_settled_l4 (h : aH) (v0 : Nat) (v1 : Int32) (v2 : Int32) : Option (Int32) := whileL wN (fun q : Int32 × Int32 => f_X11_settled_b4 h v0 q.1 q.2) (v1, v2)
def f_X11_settled (h : aH) (v0 : Nat) : Option (Int32 × aH) := (f_X11_settled_l4 h v0 (0 : Int32) (0 : Int32)).bind fun t9 => (ck h 11 v0).bind fun _ => bd2 (f_X11_give h v0 t9) fun t10 h11 => some (t10, h11)
theorem s_X11_settled {h : aH} {v0 : Nat} {out : Int32 × aH} (hf0 : f_X11_settled h v0 = some out) : EV 2 yX11_settled cX11_settled 3 (some .int) h [.ref v0] (some (.int out.1)) out.2 0 0 := by
  refine EV.of (own := RX11) (lv0 := [(0, .ref v0)]) (by decide +kernel) rfl rfl (Nat.le_of_ble_eq_true rfl) ?_
  intro p l e s m args below meth c D cA B Hb C hin
  unfold f_X11_settled at hf0
  refine r_iconst (v := 0) C dX11_settled_0 (by decide) ?_
  refine r_istore_n (lv' := [(1, .int (0 : Int32)), (0, .ref v0)]) C dX11_settled_1 (by decide) rfl rfl ?_
  refine r_iconst (v := 0) C dX11_settled_2 (by decide) ?_
  refine r_istore_n (lv' := [(2, .int (0 : Int32)), (1, .int (0 : Int32)), (0, .ref v0)]) C dX11_settled_3 (by decide) rfl rfl ?_
  obtain ⟨y1, hl4, hf0⟩ := ob hf0
  have L4 : ∀ (n : Nat) (t2 : Int32) (t3 : Int32), whileL n (fun q : Int32 × Int32 => f_X11_settled_b4 h v0 q.1 q.2) (t2, t3) = some y1 → gW p l e (rmO 2 0 0) s m args below meth c (MQ below (eQ D cA B Hb out.2 (some (.int out.1))) args s 0 0 (fun q => B ≤ q)) D cA B Hb 3 h 4 [(0, .ref v0), (1, .int t2), (2, .int t3)] [] 0 0 := by
    intro n
    induction n with
    | zero => intro t2 t3 hz; cases hz
    | succ n ih4 =>
      intro t2 t3 hz
      obtain ⟨x4, hf1, hk4⟩ := wl hz
      replace hf1 : f_X11_settled_b4 h v0 t2 t3 = some x4 := hf1
      unfold f_X11_settled_b4 at hf1
      have J41 : ∀ (t4 : Int32) (t5 : Int32), f_X11_settled_j41 h v0 t4 t5 = some x4 → gW p l e (rmO 2 0 0) s m args below meth c (MQ below (eQ D cA B Hb out.2 (some (.int out.1))) args s 0 0 (fun q => B ≤ q)) D cA B Hb 3 h 41 [(0, .ref v0), (1, .int t4), (2, .int t5)] [] 0 0 := by
        intro t4 t5 hf1
        unfold f_X11_settled_j41 at hf1
        obtain ⟨t6, e7, hf1⟩ := ob hf1
        refine r_iinc (lv' := [(2, .int t6), (0, .ref v0), (1, .int t4)]) C dX11_settled_41 rfl e7 (by decide) rfl ?_
        refine r_goto (tgt := 4) C dX11_settled_44 (by decide) ?_
        obtain rfl := so hf1
        refine r_subk [1, 2, 0] (lv' := [(0, .ref v0), (1, .int t4), (2, .int t6)]) rfl ?_
        exact ih4 t4 t6 hk4
      refine r_iload_n C dX11_settled_4 rfl ?_
      refine r_aload_n C dX11_settled_5 rfl ?_
      obtain ⟨t8, e9, hf1⟩ := ob hf1
      refine r_getR C fk_X11_74 rfl dX11_settled_6 e9 ?_
      obtain ⟨t10, e11, hf1⟩ := ob hf1
      refine r_getI C fk_X11_208 rfl dX11_settled_9 e11 ?_
      refine r_icmp_ge (tgt := 47) C dX11_settled_12 (by decide) (fun c12 => ?_) (fun c12 => ?_)
      · rw [if_pos c12] at hf1
        obtain rfl := so hf1
        obtain rfl := so (show some t2 = some y1 from hk4)
        refine r_aload_n C dX11_settled_47 rfl ?_
        refine r_iload_n C dX11_settled_48 rfl ?_
        obtain ⟨u14, e13, hf0⟩ := ob hf0
        obtain ⟨t15, h16, e17, hf0⟩ := ob2 hf0
        refine r_cV (ci := 11) (rest := []) (st2 := [.int t15]) C (s_X11_give e17) mk_X11_give rfl (ck_k e13) (by decide) im_X11_give sl_X11_give lk_X11_179 rfl rfl rfl dX11_settled_49 (Nat.le_of_ble_eq_true rfl) ⟨Nat.le_of_ble_eq_true rfl, Nat.le_of_ble_eq_true rfl⟩ ⟨Nat.le_of_ble_eq_true rfl, Nat.le_of_ble_eq_true rfl⟩ ?_
        obtain rfl := so hf0
        exact r_iret C dX11_settled_52
      · rw [if_neg c12] at hf1
        refine r_aload_n C dX11_settled_15 rfl ?_
        obtain ⟨t18, e19, hf1⟩ := ob hf1
        refine r_getR C fk_X11_92 rfl dX11_settled_16 e19 ?_
        refine r_iload_n C dX11_settled_19 rfl ?_
        obtain ⟨u21, e20, hf1⟩ := ob hf1
        obtain ⟨t22, e23, hf1⟩ := ob hf1
        refine r_cV (ci := 3) (rest := []) (st2 := [.int t22]) C (s_X3_wasPut e23) mk_X3_wasPut rfl (ck_k e20) (by decide) im_X3_wasPut sl_X3_wasPut lk_X11_270 rfl rfl rfl dX11_settled_20 (Nat.le_of_ble_eq_true rfl) ⟨Nat.le_of_ble_eq_true rfl, Nat.le_of_ble_eq_true rfl⟩ ⟨Nat.le_of_ble_eq_true rfl, Nat.le_of_ble_eq_true rfl⟩ ?_
        refine r_ifne (tgt := 41) C dX11_settled_23 (by decide) (fun c24 => ?_) (fun c24 => ?_)
        · rw [if_neg c24] at hf1
          exact J41 t2 t3 hf1
        · rw [if_pos c24] at hf1
          refine r_aload_n C dX11_settled_26 rfl ?_
          obtain ⟨t25, e26, hf1⟩ := ob hf1
          refine r_getR C fk_X11_92 rfl dX11_settled_27 e26 ?_
          refine r_iload_n C dX11_settled_30 rfl ?_
          obtain ⟨u28, e27, hf1⟩ := ob hf1
          obtain ⟨t29, e30, hf1⟩ := ob hf1
          refine r_cV (ci := 3) (rest := []) (st2 := [.int t29]) C (s_X3_certainty e30) mk_X3_certainty rfl (ck_k e27) (by decide) im_X3_certainty sl_X3_certainty lk_X11_301 rfl rfl rfl dX11_settled_31 (Nat.le_of_ble_eq_true rfl) ⟨Nat.le_of_ble_eq_true rfl, Nat.le_of_ble_eq_true rfl⟩ ⟨Nat.le_of_ble_eq_true rfl, Nat.le_of_ble_eq_true rfl⟩ ?_
          refine r_iconst (v := -1) C dX11_settled_34 (by decide) ?_
          refine r_icmp_eq (tgt := 41) C dX11_settled_35 (by decide) (fun c31 => ?_) (fun c31 => ?_)
          · rw [if_pos c31] at hf1
            exact J41 t2 t3 hf1
          · rw [if_neg c31] at hf1
            obtain ⟨t32, e33, hf1⟩ := ob hf1
            refine r_iinc (lv' := [(1, .int t32), (0, .ref v0), (2, .int t3)]) C dX11_settled_38 rfl e33 (by decide) rfl ?_
            refine r_subk [1, 0, 2] (lv' := [(0, .ref v0), (1, .int t32), (2, .int t3)]) rfl ?_
            exact J41 t32 t3 hf1
  refine r_subk [2, 1, 0] (lv' := [(0, .ref v0), (1, .int (0 : Int32)), (2, .int (0 : Int32))]) rfl ?_
  exact L4 wN (0 : Int32) (0 : Int32) hl4
def f_X11_bench (h : aH) (v0 : Nat) : Option (Int32 × aH) := (gR h 11 v0 6).bind fun t1 => (ck h 3 t1).bind fun _ => (f_X3_leftIfHonest h t1).bind fun t2 => (ck h 11 v0).bind fun _ => bd2 (f_X11_give h v0 t2) fun t3 h4 => some (t3, h4)
theorem s_X11_bench {h : aH} {v0 : Nat} {out : Int32 × aH} (hf0 : f_X11_bench h v0 = some out) : EV 2 yX11_bench cX11_bench 1 (some .int) h [.ref v0] (some (.int out.1)) out.2 0 0 := by
  refine EV.of (own := RX11) (lv0 := [(0, .ref v0)]) (by decide +kernel) rfl rfl (Nat.le_of_ble_eq_true rfl) ?_
  intro p l e s m args below meth c D cA B Hb C hin
  unfold f_X11_bench at hf0
  refine r_aload_n C dX11_bench_0 rfl ?_
  refine r_aload_n C dX11_bench_1 rfl ?_
  obtain ⟨t1, e2, hf0⟩ := ob hf0
  refine r_getR C fk_X11_92 rfl dX11_bench_2 e2 ?_
  obtain ⟨u4, e3, hf0⟩ := ob hf0
  obtain ⟨t5, e6, hf0⟩ := ob hf0
  refine r_cV (ci := 3) (rest := [.ref v0]) (st2 := [.int t5, .ref v0]) C (s_X3_leftIfHonest e6) mk_X3_leftIfHonest rfl (ck_k e3) (by decide) im_X3_leftIfHonest sl_X3_leftIfHonest lk_X11_344 rfl rfl rfl dX11_bench_5 (Nat.le_of_ble_eq_true rfl) ⟨Nat.le_of_ble_eq_true rfl, Nat.le_of_ble_eq_true rfl⟩ ⟨Nat.le_of_ble_eq_true rfl, Nat.le_of_ble_eq_true rfl⟩ ?_
  obtain ⟨u8, e7, hf0⟩ := ob hf0
  obtain ⟨t9, h10, e11, hf0⟩ := ob2 hf0
  refine r_cV (ci := 11) (rest := []) (st2 := [.int t9]) C (s_X11_give e11) mk_X11_give rfl (ck_k e7) (by decide) im_X11_give sl_X11_give lk_X11_179 rfl rfl rfl dX11_bench_8 (Nat.le_of_ble_eq_true rfl) ⟨Nat.le_of_ble_eq_true rfl, Nat.le_of_ble_eq_true rfl⟩ ⟨Nat.le_of_ble_eq_true rfl, Nat.le_of_ble_eq_true rfl⟩ ?_
  obtain rfl := so hf0
  exact r_iret C dX11_bench_11
def f_X11_clash (h : aH) (v0 : Nat) : Option (Int32 × aH) := (gR h 11 v0 6).bind fun t1 => (ck h 3 t1).bind fun _ => (f_X3_firstClash h t1).bind fun t2 => if t2 = (-1 : Int32) then (ck h 11 v0).bind fun _ => bd2 (f_X11_refuse h v0 (6 : Int32)) fun t5 h6 => some (t5, h6) else (ck h 11 v0).bind fun _ => bd2 (f_X11_give h v0 t2) fun t3 h4 => some (t3, h4)
theorem s_X11_clash {h : aH} {v0 : Nat} {out : Int32 × aH} (hf0 : f_X11_clash h v0 = some out) : EV 4 yX11_clash cX11_clash 2 (some .int) h [.ref v0] (some (.int out.1)) out.2 0 0 := by
  refine EV.of (own := RX11) (lv0 := [(0, .ref v0)]) (by decide +kernel) rfl rfl (Nat.le_of_ble_eq_true rfl) ?_
  intro p l e s m args below meth c D cA B Hb C hin
  unfold f_X11_clash at hf0
  refine r_aload_n C dX11_clash_0 rfl ?_
  obtain ⟨t1, e2, hf0⟩ := ob hf0
  refine r_getR C fk_X11_92 rfl dX11_clash_1 e2 ?_
  obtain ⟨u4, e3, hf0⟩ := ob hf0
  obtain ⟨t5, e6, hf0⟩ := ob hf0
  refine r_cV (ci := 3) (rest := []) (st2 := [.int t5]) C (s_X3_firstClash e6) mk_X3_firstClash rfl (ck_k e3) (by decide) im_X3_firstClash sl_X3_firstClash lk_X11_347 rfl rfl rfl dX11_clash_4 (Nat.le_of_ble_eq_true rfl) ⟨Nat.le_of_ble_eq_true rfl, Nat.le_of_ble_eq_true rfl⟩ ⟨Nat.le_of_ble_eq_true rfl, Nat.le_of_ble_eq_true rfl⟩ ?_
  refine r_istore_n (lv' := [(1, .int t5), (0, .ref v0)]) C dX11_clash_7 (by decide) rfl rfl ?_
  refine r_iload_n C dX11_clash_8 rfl ?_
  refine r_iconst (v := -1) C dX11_clash_9 (by decide) ?_
  refine r_icmp_ne (tgt := 22) C dX11_clash_10 (by decide) (fun c7 => ?_) (fun c7 => ?_)
  · rw [if_neg c7] at hf0
    refine r_aload_n C dX11_clash_22 rfl ?_
    refine r_iload_n C dX11_clash_23 rfl ?_
    obtain ⟨u9, e8, hf0⟩ := ob hf0
    obtain ⟨t10, h11, e12, hf0⟩ := ob2 hf0
    refine r_cV (ci := 11) (rest := []) (st2 := [.int t10]) C (s_X11_give e12) mk_X11_give rfl (ck_k e8) (by decide) im_X11_give sl_X11_give lk_X11_179 rfl rfl rfl dX11_clash_24 (Nat.le_of_ble_eq_true rfl) ⟨Nat.le_of_ble_eq_true rfl, Nat.le_of_ble_eq_true rfl⟩ ⟨Nat.le_of_ble_eq_true rfl, Nat.le_of_ble_eq_true rfl⟩ ?_
    obtain rfl := so hf0
    exact r_iret C dX11_clash_27
  · rw [if_pos c7] at hf0
    refine r_aload_n C dX11_clash_13 rfl ?_
    refine r_bipush (v := 6) C dX11_clash_14 (by decide) ?_
    obtain ⟨u14, e13, hf0⟩ := ob hf0
    obtain ⟨t15, h16, e17, hf0⟩ := ob2 hf0
    refine r_cV (ci := 11) (rest := []) (st2 := [.int t15]) C (s_X11_refuse e17) mk_X11_refuse rfl (ck_k e13) (by decide) im_X11_refuse sl_X11_refuse lk_X11_142 rfl rfl rfl dX11_clash_16 (Nat.le_of_ble_eq_true rfl) ⟨Nat.le_of_ble_eq_true rfl, Nat.le_of_ble_eq_true rfl⟩ ⟨Nat.le_of_ble_eq_true rfl, Nat.le_of_ble_eq_true rfl⟩ ?_
    refine r_goto (tgt := 27) C dX11_clash_19 (by decide) ?_
    obtain rfl := so hf0
    exact r_iret C dX11_clash_27
def f_X11_liars (h : aH) (v0 : Nat) : Option (Int32 × aH) := (gR h 11 v0 6).bind fun t1 => (gI h 3 t1 5).bind fun t2 => if t2 = 0 then (ck h 11 v0).bind fun _ => bd2 (f_X11_refuse h v0 (6 : Int32)) fun t7 h8 => some (t7, h8) else (gR h 11 v0 6).bind fun t3 => (ck h 3 t3).bind fun _ => (f_X3_neverHonest h t3).bind fun t4 => (ck h 11 v0).bind fun _ => bd2 (f_X11_give h v0 t4) fun t5 h6 => some (t5, h6)
theorem s_X11_liars {h : aH} {v0 : Nat} {out : Int32 × aH} (hf0 : f_X11_liars h v0 = some out) : EV 1 yX11_liars cX11_liars 1 (some .int) h [.ref v0] (some (.int out.1)) out.2 0 0 := by
  refine EV.of (own := RX11) (lv0 := [(0, .ref v0)]) (by decide +kernel) rfl rfl (Nat.le_of_ble_eq_true rfl) ?_
  intro p l e s m args below meth c D cA B Hb C hin
  unfold f_X11_liars at hf0
  refine r_aload_n C dX11_liars_0 rfl ?_
  obtain ⟨t1, e2, hf0⟩ := ob hf0
  refine r_getR C fk_X11_92 rfl dX11_liars_1 e2 ?_
  obtain ⟨t3, e4, hf0⟩ := ob hf0
  refine r_getI C fk_X11_292 rfl dX11_liars_4 e4 ?_
  refine r_ifne (tgt := 17) C dX11_liars_7 (by decide) (fun c5 => ?_) (fun c5 => ?_)
  · rw [if_neg c5] at hf0
    refine r_aload_n C dX11_liars_17 rfl ?_
    refine r_aload_n C dX11_liars_18 rfl ?_
    obtain ⟨t6, e7, hf0⟩ := ob hf0
    refine r_getR C fk_X11_92 rfl dX11_liars_19 e7 ?_
    obtain ⟨u9, e8, hf0⟩ := ob hf0
    obtain ⟨t10, e11, hf0⟩ := ob hf0
    refine r_cV (ci := 3) (rest := [.ref v0]) (st2 := [.int t10, .ref v0]) C (s_X3_neverHonest e11) mk_X3_neverHonest rfl (ck_k e8) (by decide) im_X3_neverHonest sl_X3_neverHonest lk_X11_350 rfl rfl rfl dX11_liars_22 (Nat.le_of_ble_eq_true rfl) ⟨Nat.le_of_ble_eq_true rfl, Nat.le_of_ble_eq_true rfl⟩ ⟨Nat.le_of_ble_eq_true rfl, Nat.le_of_ble_eq_true rfl⟩ ?_
    obtain ⟨u13, e12, hf0⟩ := ob hf0
    obtain ⟨t14, h15, e16, hf0⟩ := ob2 hf0
    refine r_cV (ci := 11) (rest := []) (st2 := [.int t14]) C (s_X11_give e16) mk_X11_give rfl (ck_k e12) (by decide) im_X11_give sl_X11_give lk_X11_179 rfl rfl rfl dX11_liars_25 (Nat.le_of_ble_eq_true rfl) ⟨Nat.le_of_ble_eq_true rfl, Nat.le_of_ble_eq_true rfl⟩ ⟨Nat.le_of_ble_eq_true rfl, Nat.le_of_ble_eq_true rfl⟩ ?_
    obtain rfl := so hf0
    exact r_iret C dX11_liars_28
  · rw [if_pos c5] at hf0
    refine r_aload_n C dX11_liars_10 rfl ?_
    refine r_bipush (v := 6) C dX11_liars_11 (by decide) ?_
    obtain ⟨u18, e17, hf0⟩ := ob hf0
    obtain ⟨t19, h20, e21, hf0⟩ := ob2 hf0
    refine r_cV (ci := 11) (rest := []) (st2 := [.int t19]) C (s_X11_refuse e21) mk_X11_refuse rfl (ck_k e17) (by decide) im_X11_refuse sl_X11_refuse lk_X11_142 rfl rfl rfl dX11_liars_13 (Nat.le_of_ble_eq_true rfl) ⟨Nat.le_of_ble_eq_true rfl, Nat.le_of_ble_eq_true rfl⟩ ⟨Nat.le_of_ble_eq_true rfl, Nat.le_of_ble_eq_true rfl⟩ ?_
    obtain rfl := so hf0
    exact r_iret C dX11_liars_16
def f_X11_canSit (h : aH) (v0 : Nat) : Option (Int32) := (gR h 11 v0 12).bind fun t1 => (gI h 8 t1 7).bind fun t2 => if t2 = 0 then some (0 : Int32) else (gR h 11 v0 11).bind fun t3 => (gI h 1 t3 15).bind fun t4 => if t4 ≤ 0 then some (0 : Int32) else some (1 : Int32)
theorem s_X11_canSit {h : aH} {v0 : Nat} {out : Int32} (hf0 : f_X11_canSit h v0 = some out) : EV 0 yX11_canSit cX11_canSit 1 (some .boolean) h [.ref v0] (some (.int out)) h 0 0 := by
  refine EV.of (own := RX11) (lv0 := [(0, .ref v0)]) (by decide +kernel) rfl rfl (Nat.le_of_ble_eq_true rfl) ?_
  intro p l e s m args below meth c D cA B Hb C hin
  unfold f_X11_canSit at hf0
  refine r_aload_n C dX11_canSit_0 rfl ?_
  obtain ⟨t1, e2, hf0⟩ := ob hf0
  refine r_getR C fk_X11_45 rfl dX11_canSit_1 e2 ?_
  obtain ⟨t3, e4, hf0⟩ := ob hf0
  refine r_getI C fk_X11_170 rfl dX11_canSit_4 e4 ?_
  refine r_ifeq (tgt := 24) C dX11_canSit_7 (by decide) (fun c5 => ?_) (fun c5 => ?_)
  · rw [if_pos c5] at hf0
    refine r_iconst (v := 0) C dX11_canSit_24 (by decide) ?_
    obtain rfl := so hf0
    exact r_zret C dX11_canSit_25 (Or.inl rfl)
  · rw [if_neg c5] at hf0
    refine r_aload_n C dX11_canSit_10 rfl ?_
    obtain ⟨t6, e7, hf0⟩ := ob hf0
    refine r_getR C fk_X11_74 rfl dX11_canSit_11 e7 ?_
    obtain ⟨t8, e9, hf0⟩ := ob hf0
    refine r_getI C fk_X11_176 rfl dX11_canSit_14 e9 ?_
    refine r_ifle (tgt := 24) C dX11_canSit_17 (by decide) (fun c10 => ?_) (fun c10 => ?_)
    · rw [if_pos c10] at hf0
      refine r_iconst (v := 0) C dX11_canSit_24 (by decide) ?_
      obtain rfl := so hf0
      exact r_zret C dX11_canSit_25 (Or.inl rfl)
    · rw [if_neg c10] at hf0
      refine r_iconst (v := 1) C dX11_canSit_20 (by decide) ?_
      refine r_goto (tgt := 25) C dX11_canSit_21 (by decide) ?_
      obtain rfl := so hf0
      exact r_zret C dX11_canSit_25 (Or.inr rfl)
def f_X11_sit (h : aH) (v0 : Nat) (v1 : Int32) : Option (Int32 × aH) := (f_X11_below h v1 (10000 : Int32)).bind fun t1 => if t1 = 0 then (ck h 11 v0).bind fun _ => bd2 (f_X11_refuse h v0 (1 : Int32)) fun t43 h44 => some (t43, h44) else (ck h 11 v0).bind fun _ => (f_X11_canSit h v0).bind fun t2 => if t2 = 0 then (ck h 11 v0).bind fun _ => bd2 (f_X11_refuse h v0 (6 : Int32)) fun t41 h42 => some (t41, h42) else (gR h 11 v0 8).bind fun t3 => (gR h 11 v0 11).bind fun t4 => (gR h 11 v0 12).bind fun t5 => (ck h 10 t3).bind fun _ => bd2 (f_X10_holdCourt h t3 t4 t5 v1) fun t6 h7 => (gR h7 11 v0 10).bind fun t8 => (gR h7 11 v0 8).bind fun t9 => (gR h7 10 t9 0).bind fun t10 => (gR h7 3 t10 0).bind fun t11 => (gI h7 6 t11 4).bind fun t12 => (sI h7 t8 (0 : Int32) t12).bind fun h13 => (gR h13 11 v0 10).bind fun t14 => (gR h13 11 v0 8).bind fun t15 => (gR h13 10 t15 0).bind fun t16 => (ck h13 3 t16).bind fun _ => (f_X3_costs h13 t16).bind fun t17 => (sI h13 t14 (1 : Int32) t17).bind fun h18 => (gR h18 11 v0 10).bind fun t19 => (gR h18 11 v0 8).bind fun t20 => (gR h18 10 t20 0).bind fun t21 => (gR h18 3 t21 0).bind fun t22 => (gI h18 6 t22 5).bind fun t23 => (sI h18 t19 (2 : Int32) t23).bind fun h24 => (gR h24 11 v0 10).bind fun t25 => (gR h24 11 v0 8).bind fun t26 => (gI h24 10 t26 2).bind fun t27 => (sI h24 t25 (3 : Int32) t27).bind fun h28 => (gR h28 11 v0 10).bind fun t29 => (gR h28 11 v0 8).bind fun t30 => (gR h28 10 t30 0).bind fun t31 => (gI h28 3 t31 5).bind fun t32 => (sI h28 t29 (4 : Int32) t32).bind fun h33 => (gR h33 11 v0 10).bind fun t34 => (gR h33 11 v0 8).bind fun t35 => (ck h33 10 t35).bind fun _ => (f_X10_dishonest h33 t35).bind fun t36 => (sI h33 t34 (5 : Int32) t36).bind fun h37 => (pZ h37 11 v0 16 (1 : Int32)).bind fun h38 => (ck h38 11 v0).bind fun _ => bd2 (f_X11_give h38 v0 t6) fun t39 h40 => some (t39, h40)
theorem s_X11_sit {h : aH} {v0 : Nat} {v1 : Int32} {out : Int32 × aH} (hf0 : f_X11_sit h v0 v1 = some out) : EV 6 yX11_sit cX11_sit 3 (some .int) h [.ref v0, .int v1] (some (.int out.1)) out.2 0 0 := by
  refine EV.of (own := RX11) (lv0 := [(0, .ref v0), (1, .int v1)]) (by decide +kernel) rfl rfl (Nat.le_of_ble_eq_true rfl) ?_
  intro p l e s m args below meth c D cA B Hb C hin
  unfold f_X11_sit at hf0
  refine r_iload_n C dX11_sit_0 rfl ?_
  refine r_sipush (v := 10000) C dX11_sit_1 (by decide) ?_
  obtain ⟨t1, e2, hf0⟩ := ob hf0
  refine r_cS (rest := []) (st2 := [.int t1]) C (s_X11_below e2) mk_X11_below sm_X11_below lk_X11_119 rfl rfl rfl dX11_sit_4 (Nat.le_of_ble_eq_true rfl) ⟨Nat.le_of_ble_eq_true rfl, Nat.le_of_ble_eq_true rfl⟩ ⟨Nat.le_of_ble_eq_true rfl, Nat.le_of_ble_eq_true rfl⟩ ?_
  refine r_ifne (tgt := 16) C dX11_sit_7 (by decide) (fun c3 => ?_) (fun c3 => ?_)
  · rw [if_neg c3] at hf0
    refine r_aload_n C dX11_sit_16 rfl ?_
    obtain ⟨u5, e4, hf0⟩ := ob hf0
    obtain ⟨t6, e7, hf0⟩ := ob hf0
    refine r_cV (ci := 11) (rest := []) (st2 := [.int t6]) C (s_X11_canSit e7) mk_X11_canSit rfl (ck_k e4) (by decide) im_X11_canSit sl_X11_canSit lk_X11_353 rfl rfl rfl dX11_sit_17 (Nat.le_of_ble_eq_true rfl) ⟨Nat.le_of_ble_eq_true rfl, Nat.le_of_ble_eq_true rfl⟩ ⟨Nat.le_of_ble_eq_true rfl, Nat.le_of_ble_eq_true rfl⟩ ?_
    refine r_ifne (tgt := 30) C dX11_sit_20 (by decide) (fun c8 => ?_) (fun c8 => ?_)
    · rw [if_neg c8] at hf0
      refine r_aload_n C dX11_sit_30 rfl ?_
      obtain ⟨t9, e10, hf0⟩ := ob hf0
      refine r_getR C fk_X11_108 rfl dX11_sit_31 e10 ?_
      refine r_aload_n C dX11_sit_34 rfl ?_
      obtain ⟨t11, e12, hf0⟩ := ob hf0
      refine r_getR C fk_X11_74 rfl dX11_sit_35 e12 ?_
      refine r_aload_n C dX11_sit_38 rfl ?_
      obtain ⟨t13, e14, hf0⟩ := ob hf0
      refine r_getR C fk_X11_45 rfl dX11_sit_39 e14 ?_
      refine r_iload_n C dX11_sit_42 rfl ?_
      obtain ⟨u16, e15, hf0⟩ := ob hf0
      obtain ⟨t17, h18, e19, hf0⟩ := ob2 hf0
      refine r_cV (ci := 10) (rest := []) (st2 := [.int t17]) C (s_X10_holdCourt e19) mk_X10_holdCourt rfl (ck_k e15) (by decide) im_X10_holdCourt sl_X10_holdCourt lk_X11_356 rfl rfl rfl dX11_sit_43 (Nat.le_of_ble_eq_true rfl) ⟨Nat.le_of_ble_eq_true rfl, Nat.le_of_ble_eq_true rfl⟩ ⟨Nat.le_of_ble_eq_true rfl, Nat.le_of_ble_eq_true rfl⟩ ?_
      refine r_istore_n (lv' := [(2, .int t17), (0, .ref v0), (1, .int v1)]) C dX11_sit_46 (by decide) rfl rfl ?_
      refine r_aload_n C dX11_sit_47 rfl ?_
      obtain ⟨t20, e21, hf0⟩ := ob hf0
      refine r_getR C fk_X11_39 rfl dX11_sit_48 e21 ?_
      refine r_iconst (v := 0) C dX11_sit_51 (by decide) ?_
      refine r_aload_n C dX11_sit_52 rfl ?_
      obtain ⟨t22, e23, hf0⟩ := ob hf0
      refine r_getR C fk_X11_108 rfl dX11_sit_53 e23 ?_
      obtain ⟨t24, e25, hf0⟩ := ob hf0
      refine r_getR C fk_X11_360 rfl dX11_sit_56 e25 ?_
      obtain ⟨t26, e27, hf0⟩ := ob hf0
      refine r_getR C fk_X11_214 rfl dX11_sit_59 e27 ?_
      obtain ⟨t28, e29, hf0⟩ := ob hf0
      refine r_getI C fk_X11_223 rfl dX11_sit_62 e29 ?_
      obtain ⟨h30, e31, hf0⟩ := ob hf0
      refine r_stI C dX11_sit_65 e31 ?_
      refine r_aload_n C dX11_sit_66 rfl ?_
      obtain ⟨t32, e33, hf0⟩ := ob hf0
      refine r_getR C fk_X11_39 rfl dX11_sit_67 e33 ?_
      refine r_iconst (v := 1) C dX11_sit_70 (by decide) ?_
      refine r_aload_n C dX11_sit_71 rfl ?_
      obtain ⟨t34, e35, hf0⟩ := ob hf0
      refine r_getR C fk_X11_108 rfl dX11_sit_72 e35 ?_
      obtain ⟨t36, e37, hf0⟩ := ob hf0
      refine r_getR C fk_X11_360 rfl dX11_sit_75 e37 ?_
      obtain ⟨u39, e38, hf0⟩ := ob hf0
      obtain ⟨t40, e41, hf0⟩ := ob hf0
      refine r_cV (ci := 3) (rest := [.int (1 : Int32), .ref t32]) (st2 := [.int t40, .int (1 : Int32), .ref t32]) C (s_X3_costs e41) mk_X3_costs rfl (ck_k e38) (by decide) im_X3_costs sl_X3_costs lk_X11_326 rfl rfl rfl dX11_sit_78 (Nat.le_of_ble_eq_true rfl) ⟨Nat.le_of_ble_eq_true rfl, Nat.le_of_ble_eq_true rfl⟩ ⟨Nat.le_of_ble_eq_true rfl, Nat.le_of_ble_eq_true rfl⟩ ?_
      obtain ⟨h42, e43, hf0⟩ := ob hf0
      refine r_stI C dX11_sit_81 e43 ?_
      refine r_aload_n C dX11_sit_82 rfl ?_
      obtain ⟨t44, e45, hf0⟩ := ob hf0
      refine r_getR C fk_X11_39 rfl dX11_sit_83 e45 ?_
      refine r_iconst (v := 2) C dX11_sit_86 (by decide) ?_
      refine r_aload_n C dX11_sit_87 rfl ?_
      obtain ⟨t46, e47, hf0⟩ := ob hf0
      refine r_getR C fk_X11_108 rfl dX11_sit_88 e47 ?_
      obtain ⟨t48, e49, hf0⟩ := ob hf0
      refine r_getR C fk_X11_360 rfl dX11_sit_91 e49 ?_
      obtain ⟨t50, e51, hf0⟩ := ob hf0
      refine r_getR C fk_X11_214 rfl dX11_sit_94 e51 ?_
      obtain ⟨t52, e53, hf0⟩ := ob hf0
      refine r_getI C fk_X11_218 rfl dX11_sit_97 e53 ?_
      obtain ⟨h54, e55, hf0⟩ := ob hf0
      refine r_stI C dX11_sit_100 e55 ?_
      refine r_aload_n C dX11_sit_101 rfl ?_
      obtain ⟨t56, e57, hf0⟩ := ob hf0
      refine r_getR C fk_X11_39 rfl dX11_sit_102 e57 ?_
      refine r_iconst (v := 3) C dX11_sit_105 (by decide) ?_
      refine r_aload_n C dX11_sit_106 rfl ?_
      obtain ⟨t58, e59, hf0⟩ := ob hf0
      refine r_getR C fk_X11_108 rfl dX11_sit_107 e59 ?_
      obtain ⟨t60, e61, hf0⟩ := ob hf0
      refine r_getI C fk_X11_361 rfl dX11_sit_110 e61 ?_
      obtain ⟨h62, e63, hf0⟩ := ob hf0
      refine r_stI C dX11_sit_113 e63 ?_
      refine r_aload_n C dX11_sit_114 rfl ?_
      obtain ⟨t64, e65, hf0⟩ := ob hf0
      refine r_getR C fk_X11_39 rfl dX11_sit_115 e65 ?_
      refine r_iconst (v := 4) C dX11_sit_118 (by decide) ?_
      refine r_aload_n C dX11_sit_119 rfl ?_
      obtain ⟨t66, e67, hf0⟩ := ob hf0
      refine r_getR C fk_X11_108 rfl dX11_sit_120 e67 ?_
      obtain ⟨t68, e69, hf0⟩ := ob hf0
      refine r_getR C fk_X11_360 rfl dX11_sit_123 e69 ?_
      obtain ⟨t70, e71, hf0⟩ := ob hf0
      refine r_getI C fk_X11_292 rfl dX11_sit_126 e71 ?_
      obtain ⟨h72, e73, hf0⟩ := ob hf0
      refine r_stI C dX11_sit_129 e73 ?_
      refine r_aload_n C dX11_sit_130 rfl ?_
      obtain ⟨t74, e75, hf0⟩ := ob hf0
      refine r_getR C fk_X11_39 rfl dX11_sit_131 e75 ?_
      refine r_iconst (v := 5) C dX11_sit_134 (by decide) ?_
      refine r_aload_n C dX11_sit_135 rfl ?_
      obtain ⟨t76, e77, hf0⟩ := ob hf0
      refine r_getR C fk_X11_108 rfl dX11_sit_136 e77 ?_
      obtain ⟨u79, e78, hf0⟩ := ob hf0
      obtain ⟨t80, e81, hf0⟩ := ob hf0
      refine r_cV (ci := 10) (rest := [.int (5 : Int32), .ref t74]) (st2 := [.int t80, .int (5 : Int32), .ref t74]) C (s_X10_dishonest e81) mk_X10_dishonest rfl (ck_k e78) (by decide) im_X10_dishonest sl_X10_dishonest lk_X11_364 rfl rfl rfl dX11_sit_139 (Nat.le_of_ble_eq_true rfl) ⟨Nat.le_of_ble_eq_true rfl, Nat.le_of_ble_eq_true rfl⟩ ⟨Nat.le_of_ble_eq_true rfl, Nat.le_of_ble_eq_true rfl⟩ ?_
      obtain ⟨h82, e83, hf0⟩ := ob hf0
      refine r_stI C dX11_sit_142 e83 ?_
      refine r_aload_n C dX11_sit_143 rfl ?_
      refine r_iconst (v := 1) C dX11_sit_144 (by decide) ?_
      obtain ⟨h84, e85, hf0⟩ := ob hf0
      refine r_putZ C fk_X11_59 dX11_sit_145 e85 ?_
      refine r_aload_n C dX11_sit_148 rfl ?_
      refine r_iload_n C dX11_sit_149 rfl ?_
      obtain ⟨u87, e86, hf0⟩ := ob hf0
      obtain ⟨t88, h89, e90, hf0⟩ := ob2 hf0
      refine r_cV (ci := 11) (rest := []) (st2 := [.int t88]) C (s_X11_give e90) mk_X11_give rfl (ck_k e86) (by decide) im_X11_give sl_X11_give lk_X11_179 rfl rfl rfl dX11_sit_150 (Nat.le_of_ble_eq_true rfl) ⟨Nat.le_of_ble_eq_true rfl, Nat.le_of_ble_eq_true rfl⟩ ⟨Nat.le_of_ble_eq_true rfl, Nat.le_of_ble_eq_true rfl⟩ ?_
      obtain rfl := so hf0
      exact r_iret C dX11_sit_153
    · rw [if_pos c8] at hf0
      refine r_aload_n C dX11_sit_23 rfl ?_
      refine r_bipush (v := 6) C dX11_sit_24 (by decide) ?_
      obtain ⟨u92, e91, hf0⟩ := ob hf0
      obtain ⟨t93, h94, e95, hf0⟩ := ob2 hf0
      refine r_cV (ci := 11) (rest := []) (st2 := [.int t93]) C (s_X11_refuse e95) mk_X11_refuse rfl (ck_k e91) (by decide) im_X11_refuse sl_X11_refuse lk_X11_142 rfl rfl rfl dX11_sit_26 (Nat.le_of_ble_eq_true rfl) ⟨Nat.le_of_ble_eq_true rfl, Nat.le_of_ble_eq_true rfl⟩ ⟨Nat.le_of_ble_eq_true rfl, Nat.le_of_ble_eq_true rfl⟩ ?_
      obtain rfl := so hf0
      exact r_iret C dX11_sit_29
  · rw [if_pos c3] at hf0
    refine r_aload_n C dX11_sit_10 rfl ?_
    refine r_iconst (v := 1) C dX11_sit_11 (by decide) ?_
    obtain ⟨u97, e96, hf0⟩ := ob hf0
    obtain ⟨t98, h99, e100, hf0⟩ := ob2 hf0
    refine r_cV (ci := 11) (rest := []) (st2 := [.int t98]) C (s_X11_refuse e100) mk_X11_refuse rfl (ck_k e96) (by decide) im_X11_refuse sl_X11_refuse lk_X11_142 rfl rfl rfl dX11_sit_12 (Nat.le_of_ble_eq_true rfl) ⟨Nat.le_of_ble_eq_true rfl, Nat.le_of_ble_eq_true rfl⟩ ⟨Nat.le_of_ble_eq_true rfl, Nat.le_of_ble_eq_true rfl⟩ ?_
    obtain rfl := so hf0
    exact r_iret C dX11_sit_15
def f_X11_sat (h : aH) (v0 : Nat) (v1 : Int32) : Option (Int32 × aH) := (gR h 11 v0 10).bind fun t1 => (aN h t1).bind fun t2 => (f_X11_below h v1 t2).bind fun t3 => if t3 = 0 then (ck h 11 v0).bind fun _ => bd2 (f_X11_refuse h v0 (1 : Int32)) fun t11 h12 => some (t11, h12) else (gI h 11 v0 16).bind fun t4 => if t4 = 0 then (ck h 11 v0).bind fun _ => bd2 (f_X11_refuse h v0 (6 : Int32)) fun t5 h6 => some (t5, h6) else (gR h 11 v0 10).bind fun t7 => (lI h t7 v1).bind fun t8 => (ck h 11 v0).bind fun _ => bd2 (f_X11_give h v0 t8) fun t9 h10 => some (t9, h10)
theorem s_X11_sat {h : aH} {v0 : Nat} {v1 : Int32} {out : Int32 × aH} (hf0 : f_X11_sat h v0 v1 = some out) : EV 1 yX11_sat cX11_sat 2 (some .int) h [.ref v0, .int v1] (some (.int out.1)) out.2 0 0 := by
  refine EV.of (own := RX11) (lv0 := [(0, .ref v0), (1, .int v1)]) (by decide +kernel) rfl rfl (Nat.le_of_ble_eq_true rfl) ?_
  intro p l e s m args below meth c D cA B Hb C hin
  unfold f_X11_sat at hf0
  refine r_iload_n C dX11_sat_0 rfl ?_
  refine r_aload_n C dX11_sat_1 rfl ?_
  obtain ⟨t1, e2, hf0⟩ := ob hf0
  refine r_getR C fk_X11_39 rfl dX11_sat_2 e2 ?_
  obtain ⟨t3, e4, hf0⟩ := ob hf0
  refine r_alen C dX11_sat_5 e4 ?_
  obtain ⟨t5, e6, hf0⟩ := ob hf0
  refine r_cS (rest := []) (st2 := [.int t5]) C (s_X11_below e6) mk_X11_below sm_X11_below lk_X11_119 rfl rfl rfl dX11_sat_6 (Nat.le_of_ble_eq_true rfl) ⟨Nat.le_of_ble_eq_true rfl, Nat.le_of_ble_eq_true rfl⟩ ⟨Nat.le_of_ble_eq_true rfl, Nat.le_of_ble_eq_true rfl⟩ ?_
  refine r_ifne (tgt := 18) C dX11_sat_9 (by decide) (fun c7 => ?_) (fun c7 => ?_)
  · rw [if_neg c7] at hf0
    refine r_aload_n C dX11_sat_18 rfl ?_
    obtain ⟨t8, e9, hf0⟩ := ob hf0
    refine r_getI C fk_X11_59 rfl dX11_sat_19 e9 ?_
    refine r_ifeq (tgt := 38) C dX11_sat_22 (by decide) (fun c10 => ?_) (fun c10 => ?_)
    · rw [if_pos c10] at hf0
      refine r_aload_n C dX11_sat_38 rfl ?_
      refine r_bipush (v := 6) C dX11_sat_39 (by decide) ?_
      obtain ⟨u12, e11, hf0⟩ := ob hf0
      obtain ⟨t13, h14, e15, hf0⟩ := ob2 hf0
      refine r_cV (ci := 11) (rest := []) (st2 := [.int t13]) C (s_X11_refuse e15) mk_X11_refuse rfl (ck_k e11) (by decide) im_X11_refuse sl_X11_refuse lk_X11_142 rfl rfl rfl dX11_sat_41 (Nat.le_of_ble_eq_true rfl) ⟨Nat.le_of_ble_eq_true rfl, Nat.le_of_ble_eq_true rfl⟩ ⟨Nat.le_of_ble_eq_true rfl, Nat.le_of_ble_eq_true rfl⟩ ?_
      obtain rfl := so hf0
      exact r_iret C dX11_sat_44
    · rw [if_neg c10] at hf0
      refine r_aload_n C dX11_sat_25 rfl ?_
      refine r_aload_n C dX11_sat_26 rfl ?_
      obtain ⟨t16, e17, hf0⟩ := ob hf0
      refine r_getR C fk_X11_39 rfl dX11_sat_27 e17 ?_
      refine r_iload_n C dX11_sat_30 rfl ?_
      obtain ⟨t18, e19, hf0⟩ := ob hf0
      refine r_ldI C dX11_sat_31 e19 ?_
      obtain ⟨u21, e20, hf0⟩ := ob hf0
      obtain ⟨t22, h23, e24, hf0⟩ := ob2 hf0
      refine r_cV (ci := 11) (rest := []) (st2 := [.int t22]) C (s_X11_give e24) mk_X11_give rfl (ck_k e20) (by decide) im_X11_give sl_X11_give lk_X11_179 rfl rfl rfl dX11_sat_32 (Nat.le_of_ble_eq_true rfl) ⟨Nat.le_of_ble_eq_true rfl, Nat.le_of_ble_eq_true rfl⟩ ⟨Nat.le_of_ble_eq_true rfl, Nat.le_of_ble_eq_true rfl⟩ ?_
      refine r_goto (tgt := 44) C dX11_sat_35 (by decide) ?_
      obtain rfl := so hf0
      exact r_iret C dX11_sat_44
  · rw [if_pos c7] at hf0
    refine r_aload_n C dX11_sat_12 rfl ?_
    refine r_iconst (v := 1) C dX11_sat_13 (by decide) ?_
    obtain ⟨u26, e25, hf0⟩ := ob hf0
    obtain ⟨t27, h28, e29, hf0⟩ := ob2 hf0
    refine r_cV (ci := 11) (rest := []) (st2 := [.int t27]) C (s_X11_refuse e29) mk_X11_refuse rfl (ck_k e25) (by decide) im_X11_refuse sl_X11_refuse lk_X11_142 rfl rfl rfl dX11_sat_14 (Nat.le_of_ble_eq_true rfl) ⟨Nat.le_of_ble_eq_true rfl, Nat.le_of_ble_eq_true rfl⟩ ⟨Nat.le_of_ble_eq_true rfl, Nat.le_of_ble_eq_true rfl⟩ ?_
    obtain rfl := so hf0
    exact r_iret C dX11_sat_17
def f_X11_tally_j40 (h : aH) (v0 : Nat) : Option (Int32 × aH) := (ck h 11 v0).bind fun _ => bd2 (f_X11_refuse h v0 (1 : Int32)) fun t1 h2 => some (t1, h2)
def f_X11_tally_j98 (h : aH) (v0 : Nat) (v1 : Int32) (v2 : Int32) (v3 : Int32) (v4 : Int32) (v5 : Int32) : Option ((Int32 × Int32 × aH) ⊕ (Int32 × aH)) := (some (v5 + (1 : Int32))).bind fun t6 => some (.inl (v4, t6, h))
def f_X11_tally_b66 (v0 : Nat) (v1 : Int32) (v2 : Int32) (v3 : Int32) (v4 : Int32) (v5 : Int32) (h : aH) : Option ((Int32 × Int32 × aH) ⊕ (Int32 × aH)) := if v2 ≤ v5 then some (.inr (v4, h)) else (gR h 11 v0 8).bind fun t7 => (gR h 11 v0 11).bind fun t8 => (gR h 11 v0 12).bind fun t9 => (ck h 10 t7).bind fun _ => bd2 (f_X10_holdCourt h t7 t8 t9 (v1 + v5)) fun t10 h11 => if t10 = v3 then (some (v4 + (1 : Int32))).bind fun t12 => f_X11_tally_j98 h11 v0 v1 v2 v3 t12 v5 else f_X11_tally_j98 h11 v0 v1 v2 v3 v4 v5
def f_X11_tally_l66 (v0 : Nat) (v1 : Int32) (v2 : Int32) (v3 : Int32) (v4 : Int32) (v5 : Int32) (h : aH) : Option (Int32 × aH) := whileL wN (fun q : Int32 × Int32 × aH => f_X11_tally_b66 v0 v1 v2 v3 q.1 q.2.1 q.2.2) (v4, v5, h)
def f_X11_tally (h : aH) (v0 : Nat) (v1 : Int32) (v2 : Int32) (v3 : Int32) : Option (Int32 × aH) := (f_X11_below h v1 (10000 : Int32)).bind fun t3 => if t3 = 0 then f_X11_tally_j40 h v0 else if v2 < (1 : Int32) then f_X11_tally_j40 h v0 else if (30 : Int32) < v2 then f_X11_tally_j40 h v0 else if (9999 : Int32) < ((v1 + v2) - (1 : Int32)) then f_X11_tally_j40 h v0 else (f_X11_below h v3 (3 : Int32)).bind fun t4 => if t4 = 0 then f_X11_tally_j40 h v0 else (ck h 11 v0).bind fun _ => (f_X11_canSit h v0).bind fun t5 => if t5 = 0 then (ck h 11 v0).bind fun _ => bd2 (f_X11_refuse h v0 (6 : Int32)) fun t17 h18 => some (t17, h18) else bd2 (f_X11_tally_l66 v0 v1 v2 v3 (0 : Int32) (0 : Int32) h) fun t13 h14 => (ck h14 11 v0).bind fun _ => bd2 (f_X11_give h14 v0 t13) fun t15 h16 => some (t15, h16)
theorem s_X11_tally {h : aH} {v0 : Nat} {v1 : Int32} {v2 : Int32} {v3 : Int32} {out : Int32 × aH} (hf0 : f_X11_tally h v0 v1 v2 v3 = some out) : EV 6 yX11_tally cX11_tally 6 (some .int) h [.ref v0, .int v1, .int v2, .int v3] (some (.int out.1)) out.2 0 0 := by
  refine EV.of (own := RX11) (lv0 := [(0, .ref v0), (1, .int v1), (2, .int v2), (3, .int v3)]) (by decide +kernel) rfl rfl (Nat.le_of_ble_eq_true rfl) ?_
  intro p l e s m args below meth c D cA B Hb C hin
  unfold f_X11_tally at hf0
  have J40 : ∀ (h1 : aH) (t2 : Nat), f_X11_tally_j40 h1 t2 = some out → gW p l e (rmO 6 0 0) s m args below meth c (MQ below (eQ D cA B Hb out.2 (some (.int out.1))) args s 0 0 (fun q => B ≤ q)) D cA B Hb 6 h1 40 [(0, .ref t2)] [] 0 0 := by
    intro h1 t2 hf0
    unfold f_X11_tally_j40 at hf0
    refine r_aload_n C dX11_tally_40 rfl ?_
    refine r_iconst (v := 1) C dX11_tally_41 (by decide) ?_
    obtain ⟨u4, e3, hf0⟩ := ob hf0
    obtain ⟨t5, h6, e7, hf0⟩ := ob2 hf0
    refine r_cV (ci := 11) (rest := []) (st2 := [.int t5]) C (s_X11_refuse e7) mk_X11_refuse rfl (ck_k e3) (by decide) im_X11_refuse sl_X11_refuse lk_X11_142 rfl rfl rfl dX11_tally_42 (Nat.le_of_ble_eq_true rfl) ⟨Nat.le_of_ble_eq_true rfl, Nat.le_of_ble_eq_true rfl⟩ ⟨Nat.le_of_ble_eq_true rfl, Nat.le_of_ble_eq_true rfl⟩ ?_
    obtain rfl := so hf0
    exact r_iret C dX11_tally_45
  refine r_iload_n C dX11_tally_0 rfl ?_
  refine r_sipush (v := 10000) C dX11_tally_1 (by decide) ?_
  obtain ⟨t8, e9, hf0⟩ := ob hf0
  refine r_cS (rest := []) (st2 := [.int t8]) C (s_X11_below e9) mk_X11_below sm_X11_below lk_X11_119 rfl rfl rfl dX11_tally_4 (Nat.le_of_ble_eq_true rfl) ⟨Nat.le_of_ble_eq_true rfl, Nat.le_of_ble_eq_true rfl⟩ ⟨Nat.le_of_ble_eq_true rfl, Nat.le_of_ble_eq_true rfl⟩ ?_
  refine r_ifeq (tgt := 40) C dX11_tally_7 (by decide) (fun c10 => ?_) (fun c10 => ?_)
  · rw [if_pos c10] at hf0
    refine r_subk [0] (lv' := [(0, .ref v0)]) rfl ?_
    exact J40 h v0 hf0
  · rw [if_neg c10] at hf0
    refine r_iload_n C dX11_tally_10 rfl ?_
    refine r_iconst (v := 1) C dX11_tally_11 (by decide) ?_
    refine r_icmp_lt (tgt := 40) C dX11_tally_12 (by decide) (fun c11 => ?_) (fun c11 => ?_)
    · rw [if_pos c11] at hf0
      refine r_subk [0] (lv' := [(0, .ref v0)]) rfl ?_
      exact J40 h v0 hf0
    · rw [if_neg c11] at hf0
      refine r_iload_n C dX11_tally_15 rfl ?_
      refine r_bipush (v := 30) C dX11_tally_16 (by decide) ?_
      refine r_icmp_gt (tgt := 40) C dX11_tally_18 (by decide) (fun c12 => ?_) (fun c12 => ?_)
      · rw [if_pos c12] at hf0
        refine r_subk [0] (lv' := [(0, .ref v0)]) rfl ?_
        exact J40 h v0 hf0
      · rw [if_neg c12] at hf0
        refine r_iload_n C dX11_tally_21 rfl ?_
        refine r_iload_n C dX11_tally_22 rfl ?_
        refine r_iadd C dX11_tally_23 ?_
        refine r_iconst (v := 1) C dX11_tally_24 (by decide) ?_
        refine r_isub C dX11_tally_25 ?_
        refine r_sipush (v := 9999) C dX11_tally_26 (by decide) ?_
        refine r_icmp_gt (tgt := 40) C dX11_tally_29 (by decide) (fun c13 => ?_) (fun c13 => ?_)
        · rw [if_pos c13] at hf0
          refine r_subk [0] (lv' := [(0, .ref v0)]) rfl ?_
          exact J40 h v0 hf0
        · rw [if_neg c13] at hf0
          refine r_iload_n C dX11_tally_32 rfl ?_
          refine r_iconst (v := 3) C dX11_tally_33 (by decide) ?_
          obtain ⟨t14, e15, hf0⟩ := ob hf0
          refine r_cS (rest := []) (st2 := [.int t14]) C (s_X11_below e15) mk_X11_below sm_X11_below lk_X11_119 rfl rfl rfl dX11_tally_34 (Nat.le_of_ble_eq_true rfl) ⟨Nat.le_of_ble_eq_true rfl, Nat.le_of_ble_eq_true rfl⟩ ⟨Nat.le_of_ble_eq_true rfl, Nat.le_of_ble_eq_true rfl⟩ ?_
          refine r_ifne (tgt := 46) C dX11_tally_37 (by decide) (fun c16 => ?_) (fun c16 => ?_)
          · rw [if_neg c16] at hf0
            refine r_aload_n C dX11_tally_46 rfl ?_
            obtain ⟨u18, e17, hf0⟩ := ob hf0
            obtain ⟨t19, e20, hf0⟩ := ob hf0
            refine r_cV (ci := 11) (rest := []) (st2 := [.int t19]) C (s_X11_canSit e20) mk_X11_canSit rfl (ck_k e17) (by decide) im_X11_canSit sl_X11_canSit lk_X11_353 rfl rfl rfl dX11_tally_47 (Nat.le_of_ble_eq_true rfl) ⟨Nat.le_of_ble_eq_true rfl, Nat.le_of_ble_eq_true rfl⟩ ⟨Nat.le_of_ble_eq_true rfl, Nat.le_of_ble_eq_true rfl⟩ ?_
            refine r_ifne (tgt := 60) C dX11_tally_50 (by decide) (fun c21 => ?_) (fun c21 => ?_)
            · rw [if_neg c21] at hf0
              refine r_iconst (v := 0) C dX11_tally_60 (by decide) ?_
              refine r_istore (lv' := [(4, .int (0 : Int32)), (0, .ref v0), (1, .int v1), (2, .int v2), (3, .int v3)]) C dX11_tally_61 (by decide) rfl rfl ?_
              refine r_iconst (v := 0) C dX11_tally_63 (by decide) ?_
              refine r_istore (lv' := [(5, .int (0 : Int32)), (4, .int (0 : Int32)), (0, .ref v0), (1, .int v1), (2, .int v2), (3, .int v3)]) C dX11_tally_64 (by decide) rfl rfl ?_
              obtain ⟨y22, y23, hl66, hf0⟩ := ob2 hf0
              have L66 : ∀ (n : Nat) (t24 : Int32) (t25 : Int32) (h26 : aH), whileL n (fun q : Int32 × Int32 × aH => f_X11_tally_b66 v0 v1 v2 v3 q.1 q.2.1 q.2.2) (t24, t25, h26) = some (y22, y23) → gW p l e (rmO 6 0 0) s m args below meth c (MQ below (eQ D cA B Hb out.2 (some (.int out.1))) args s 0 0 (fun q => B ≤ q)) D cA B Hb 6 h26 66 [(0, .ref v0), (1, .int v1), (2, .int v2), (3, .int v3), (4, .int t24), (5, .int t25)] [] 0 0 := by
                intro n
                induction n with
                | zero => intro t24 t25 h26 hz; cases hz
                | succ n ih66 =>
                  intro t24 t25 h26 hz
                  obtain ⟨x66, hf1, hk66⟩ := wl hz
                  replace hf1 : f_X11_tally_b66 v0 v1 v2 v3 t24 t25 h26 = some x66 := hf1
                  unfold f_X11_tally_b66 at hf1
                  have J98 : ∀ (h27 : aH) (t28 : Int32) (t29 : Int32), f_X11_tally_j98 h27 v0 v1 v2 v3 t28 t29 = some x66 → gW p l e (rmO 6 0 0) s m args below meth c (MQ below (eQ D cA B Hb out.2 (some (.int out.1))) args s 0 0 (fun q => B ≤ q)) D cA B Hb 6 h27 98 [(0, .ref v0), (1, .int v1), (2, .int v2), (3, .int v3), (4, .int t28), (5, .int t29)] [] 0 0 := by
                    intro h27 t28 t29 hf1
                    unfold f_X11_tally_j98 at hf1
                    obtain ⟨t30, e31, hf1⟩ := ob hf1
                    refine r_iinc (lv' := [(5, .int t30), (0, .ref v0), (1, .int v1), (2, .int v2), (3, .int v3), (4, .int t28)]) C dX11_tally_98 rfl e31 (by decide) rfl ?_
                    refine r_goto (tgt := 66) C dX11_tally_101 (by decide) ?_
                    obtain rfl := so hf1
                    refine r_subk [1, 2, 3, 4, 5, 0] (lv' := [(0, .ref v0), (1, .int v1), (2, .int v2), (3, .int v3), (4, .int t28), (5, .int t30)]) rfl ?_
                    exact ih66 t28 t30 h27 hk66
                  refine r_iload C dX11_tally_66 rfl ?_
                  refine r_iload_n C dX11_tally_68 rfl ?_
                  refine r_icmp_ge (tgt := 104) C dX11_tally_69 (by decide) (fun c32 => ?_) (fun c32 => ?_)
                  · rw [if_pos c32] at hf1
                    obtain rfl := so hf1
                    obtain ⟨rfl, rfl⟩ := so2 (show some (t24, h26) = some (y22, y23) from hk66)
                    refine r_aload_n C dX11_tally_104 rfl ?_
                    refine r_iload C dX11_tally_105 rfl ?_
                    obtain ⟨u34, e33, hf0⟩ := ob hf0
                    obtain ⟨t35, h36, e37, hf0⟩ := ob2 hf0
                    refine r_cV (ci := 11) (rest := []) (st2 := [.int t35]) C (s_X11_give e37) mk_X11_give rfl (ck_k e33) (by decide) im_X11_give sl_X11_give lk_X11_179 rfl rfl rfl dX11_tally_107 (Nat.le_of_ble_eq_true rfl) ⟨Nat.le_of_ble_eq_true rfl, Nat.le_of_ble_eq_true rfl⟩ ⟨Nat.le_of_ble_eq_true rfl, Nat.le_of_ble_eq_true rfl⟩ ?_
                    obtain rfl := so hf0
                    exact r_iret C dX11_tally_110
                  · rw [if_neg c32] at hf1
                    refine r_aload_n C dX11_tally_72 rfl ?_
                    obtain ⟨t38, e39, hf1⟩ := ob hf1
                    refine r_getR C fk_X11_108 rfl dX11_tally_73 e39 ?_
                    refine r_aload_n C dX11_tally_76 rfl ?_
                    obtain ⟨t40, e41, hf1⟩ := ob hf1
                    refine r_getR C fk_X11_74 rfl dX11_tally_77 e41 ?_
                    refine r_aload_n C dX11_tally_80 rfl ?_
                    obtain ⟨t42, e43, hf1⟩ := ob hf1
                    refine r_getR C fk_X11_45 rfl dX11_tally_81 e43 ?_
                    refine r_iload_n C dX11_tally_84 rfl ?_
                    refine r_iload C dX11_tally_85 rfl ?_
                    refine r_iadd C dX11_tally_87 ?_
                    obtain ⟨u45, e44, hf1⟩ := ob hf1
                    obtain ⟨t46, h47, e48, hf1⟩ := ob2 hf1
                    refine r_cV (ci := 10) (rest := []) (st2 := [.int t46]) C (s_X10_holdCourt e48) mk_X10_holdCourt rfl (ck_k e44) (by decide) im_X10_holdCourt sl_X10_holdCourt lk_X11_356 rfl rfl rfl dX11_tally_88 (Nat.le_of_ble_eq_true rfl) ⟨Nat.le_of_ble_eq_true rfl, Nat.le_of_ble_eq_true rfl⟩ ⟨Nat.le_of_ble_eq_true rfl, Nat.le_of_ble_eq_true rfl⟩ ?_
                    refine r_iload_n C dX11_tally_91 rfl ?_
                    refine r_icmp_ne (tgt := 98) C dX11_tally_92 (by decide) (fun c49 => ?_) (fun c49 => ?_)
                    · rw [if_neg c49] at hf1
                      exact J98 h47 t24 t25 hf1
                    · rw [if_pos c49] at hf1
                      obtain ⟨t50, e51, hf1⟩ := ob hf1
                      refine r_iinc (lv' := [(4, .int t50), (0, .ref v0), (1, .int v1), (2, .int v2), (3, .int v3), (5, .int t25)]) C dX11_tally_95 rfl e51 (by decide) rfl ?_
                      refine r_subk [1, 2, 3, 4, 0, 5] (lv' := [(0, .ref v0), (1, .int v1), (2, .int v2), (3, .int v3), (4, .int t50), (5, .int t25)]) rfl ?_
                      exact J98 h47 t50 t25 hf1
              refine r_subk [2, 3, 4, 5, 1, 0] (lv' := [(0, .ref v0), (1, .int v1), (2, .int v2), (3, .int v3), (4, .int (0 : Int32)), (5, .int (0 : Int32))]) rfl ?_
              exact L66 wN (0 : Int32) (0 : Int32) h hl66
            · rw [if_pos c21] at hf0
              refine r_aload_n C dX11_tally_53 rfl ?_
              refine r_bipush (v := 6) C dX11_tally_54 (by decide) ?_
              obtain ⟨u53, e52, hf0⟩ := ob hf0
              obtain ⟨t54, h55, e56, hf0⟩ := ob2 hf0
              refine r_cV (ci := 11) (rest := []) (st2 := [.int t54]) C (s_X11_refuse e56) mk_X11_refuse rfl (ck_k e52) (by decide) im_X11_refuse sl_X11_refuse lk_X11_142 rfl rfl rfl dX11_tally_56 (Nat.le_of_ble_eq_true rfl) ⟨Nat.le_of_ble_eq_true rfl, Nat.le_of_ble_eq_true rfl⟩ ⟨Nat.le_of_ble_eq_true rfl, Nat.le_of_ble_eq_true rfl⟩ ?_
              obtain rfl := so hf0
              exact r_iret C dX11_tally_59
          · rw [if_pos c16] at hf0
            refine r_subk [0] (lv' := [(0, .ref v0)]) rfl ?_
            exact J40 h v0 hf0
def f_X11_mark (h : aH) (v0 : Nat) : Option (Int32 × aH) := (gI h 11 v0 14).bind fun t1 => if t1 < (3 : Int32) then (gR h 11 v0 9).bind fun t2 => (gI h 11 v0 14).bind fun t3 => (lQ h 25 t2 t3).bind fun t4 => (gR h 11 v0 11).bind fun t5 => (gR h 11 v0 12).bind fun t6 => (gR h 11 v0 6).bind fun t7 => (gR h 3 t7 0).bind fun t8 => (ck h 5 t4).bind fun _ => (f_X5_keep h t4 t5 t6 t8).bind fun h9 => (gI h9 11 v0 14).bind fun t10 => (pI h9 11 v0 14 (t10 + (1 : Int32))).bind fun h11 => (gI h11 11 v0 14).bind fun t12 => (ck h11 11 v0).bind fun _ => bd2 (f_X11_give h11 v0 t12) fun t13 h14 => some (t13, h14) else (ck h 11 v0).bind fun _ => bd2 (f_X11_refuse h v0 (4 : Int32)) fun t15 h16 => some (t15, h16)
theorem s_X11_mark {h : aH} {v0 : Nat} {out : Int32 × aH} (hf0 : f_X11_mark h v0 = some out) : EV 3 yX11_mark cX11_mark 1 (some .int) h [.ref v0] (some (.int out.1)) out.2 0 0 := by
  refine EV.of (own := RX11) (lv0 := [(0, .ref v0)]) (by decide +kernel) rfl rfl (Nat.le_of_ble_eq_true rfl) ?_
  intro p l e s m args below meth c D cA B Hb C hin
  unfold f_X11_mark at hf0
  refine r_aload_n C dX11_mark_0 rfl ?_
  obtain ⟨t1, e2, hf0⟩ := ob hf0
  refine r_getI C fk_X11_52 rfl dX11_mark_1 e2 ?_
  refine r_iconst (v := 3) C dX11_mark_4 (by decide) ?_
  refine r_icmp_lt (tgt := 14) C dX11_mark_5 (by decide) (fun c3 => ?_) (fun c3 => ?_)
  · rw [if_pos c3] at hf0
    refine r_aload_n C dX11_mark_14 rfl ?_
    obtain ⟨t4, e5, hf0⟩ := ob hf0
    refine r_getR C fk_X11_35 rfl dX11_mark_15 e5 ?_
    refine r_aload_n C dX11_mark_18 rfl ?_
    obtain ⟨t6, e7, hf0⟩ := ob hf0
    refine r_getI C fk_X11_52 rfl dX11_mark_19 e7 ?_
    obtain ⟨t8, e9, hf0⟩ := ob hf0
    refine r_ldN25 C dX11_mark_22 e9 ?_
    refine r_aload_n C dX11_mark_23 rfl ?_
    obtain ⟨t10, e11, hf0⟩ := ob hf0
    refine r_getR C fk_X11_74 rfl dX11_mark_24 e11 ?_
    refine r_aload_n C dX11_mark_27 rfl ?_
    obtain ⟨t12, e13, hf0⟩ := ob hf0
    refine r_getR C fk_X11_45 rfl dX11_mark_28 e13 ?_
    refine r_aload_n C dX11_mark_31 rfl ?_
    obtain ⟨t14, e15, hf0⟩ := ob hf0
    refine r_getR C fk_X11_92 rfl dX11_mark_32 e15 ?_
    obtain ⟨t16, e17, hf0⟩ := ob hf0
    refine r_getR C fk_X11_214 rfl dX11_mark_35 e17 ?_
    obtain ⟨u19, e18, hf0⟩ := ob hf0
    obtain ⟨h20, e21, hf0⟩ := ob hf0
    refine r_cV (ci := 5) (rest := []) (st2 := []) C (s_X5_keep e21) mk_X5_keep rfl (ck_k e18) (by decide) im_X5_keep sl_X5_keep lk_X11_367 rfl rfl rfl dX11_mark_38 (Nat.le_of_ble_eq_true rfl) ⟨Nat.le_of_ble_eq_true rfl, Nat.le_of_ble_eq_true rfl⟩ ⟨Nat.le_of_ble_eq_true rfl, Nat.le_of_ble_eq_true rfl⟩ ?_
    refine r_aload_n C dX11_mark_41 rfl ?_
    refine r_dup C dX11_mark_42 rfl ?_
    obtain ⟨t22, e23, hf0⟩ := ob hf0
    refine r_getI C fk_X11_52 rfl dX11_mark_43 e23 ?_
    refine r_iconst (v := 1) C dX11_mark_46 (by decide) ?_
    refine r_iadd C dX11_mark_47 ?_
    obtain ⟨h24, e25, hf0⟩ := ob hf0
    refine r_putI C fk_X11_52 dX11_mark_48 e25 ?_
    refine r_aload_n C dX11_mark_51 rfl ?_
    refine r_aload_n C dX11_mark_52 rfl ?_
    obtain ⟨t26, e27, hf0⟩ := ob hf0
    refine r_getI C fk_X11_52 rfl dX11_mark_53 e27 ?_
    obtain ⟨u29, e28, hf0⟩ := ob hf0
    obtain ⟨t30, h31, e32, hf0⟩ := ob2 hf0
    refine r_cV (ci := 11) (rest := []) (st2 := [.int t30]) C (s_X11_give e32) mk_X11_give rfl (ck_k e28) (by decide) im_X11_give sl_X11_give lk_X11_179 rfl rfl rfl dX11_mark_56 (Nat.le_of_ble_eq_true rfl) ⟨Nat.le_of_ble_eq_true rfl, Nat.le_of_ble_eq_true rfl⟩ ⟨Nat.le_of_ble_eq_true rfl, Nat.le_of_ble_eq_true rfl⟩ ?_
    obtain rfl := so hf0
    exact r_iret C dX11_mark_59
  · rw [if_neg c3] at hf0
    refine r_aload_n C dX11_mark_8 rfl ?_
    refine r_iconst (v := 4) C dX11_mark_9 (by decide) ?_
    obtain ⟨u34, e33, hf0⟩ := ob hf0
    obtain ⟨t35, h36, e37, hf0⟩ := ob2 hf0
    refine r_cV (ci := 11) (rest := []) (st2 := [.int t35]) C (s_X11_refuse e37) mk_X11_refuse rfl (ck_k e33) (by decide) im_X11_refuse sl_X11_refuse lk_X11_142 rfl rfl rfl dX11_mark_10 (Nat.le_of_ble_eq_true rfl) ⟨Nat.le_of_ble_eq_true rfl, Nat.le_of_ble_eq_true rfl⟩ ⟨Nat.le_of_ble_eq_true rfl, Nat.le_of_ble_eq_true rfl⟩ ?_
    obtain rfl := so hf0
    exact r_iret C dX11_mark_13
def f_X11_back (h : aH) (v0 : Nat) : Option (Int32 × aH) := (gI h 11 v0 14).bind fun t1 => if t1 = 0 then (ck h 11 v0).bind fun _ => bd2 (f_X11_refuse h v0 (6 : Int32)) fun t19 h20 => some (t19, h20) else (gI h 11 v0 14).bind fun t2 => (pI h 11 v0 14 (t2 - (1 : Int32))).bind fun h3 => (gR h3 11 v0 9).bind fun t4 => (gI h3 11 v0 14).bind fun t5 => (lQ h3 25 t4 t5).bind fun t6 => (gR h3 5 t6 2).bind fun t7 => (pR h3 11 v0 11 t7).bind fun h8 => (gR h8 11 v0 12).bind fun t9 => (gR h8 5 t6 0).bind fun t10 => (ck h8 8 t9).bind fun _ => (f_X8_copyFrom h8 t9 t10).bind fun h11 => (gR h11 11 v0 6).bind fun t12 => (gR h11 5 t6 2).bind fun t13 => (gR h11 5 t6 1).bind fun t14 => (ck h11 3 t12).bind fun _ => (f_X3_resume h11 t12 t13 t14).bind fun h15 => (gI h15 11 v0 14).bind fun t16 => (ck h15 11 v0).bind fun _ => bd2 (f_X11_give h15 v0 t16) fun t17 h18 => some (t17, h18)
theorem s_X11_back {h : aH} {v0 : Nat} {out : Int32 × aH} (hf0 : f_X11_back h v0 = some out) : EV 5 yX11_back cX11_back 2 (some .int) h [.ref v0] (some (.int out.1)) out.2 0 0 := by
  refine EV.of (own := RX11) (lv0 := [(0, .ref v0)]) (by decide +kernel) rfl rfl (Nat.le_of_ble_eq_true rfl) ?_
  intro p l e s m args below meth c D cA B Hb C hin
  unfold f_X11_back at hf0
  refine r_aload_n C dX11_back_0 rfl ?_
  obtain ⟨t1, e2, hf0⟩ := ob hf0
  refine r_getI C fk_X11_52 rfl dX11_back_1 e2 ?_
  refine r_ifne (tgt := 14) C dX11_back_4 (by decide) (fun c3 => ?_) (fun c3 => ?_)
  · rw [if_neg c3] at hf0
    refine r_aload_n C dX11_back_14 rfl ?_
    refine r_dup C dX11_back_15 rfl ?_
    obtain ⟨t4, e5, hf0⟩ := ob hf0
    refine r_getI C fk_X11_52 rfl dX11_back_16 e5 ?_
    refine r_iconst (v := 1) C dX11_back_19 (by decide) ?_
    refine r_isub C dX11_back_20 ?_
    obtain ⟨h6, e7, hf0⟩ := ob hf0
    refine r_putI C fk_X11_52 dX11_back_21 e7 ?_
    refine r_aload_n C dX11_back_24 rfl ?_
    obtain ⟨t8, e9, hf0⟩ := ob hf0
    refine r_getR C fk_X11_35 rfl dX11_back_25 e9 ?_
    refine r_aload_n C dX11_back_28 rfl ?_
    obtain ⟨t10, e11, hf0⟩ := ob hf0
    refine r_getI C fk_X11_52 rfl dX11_back_29 e11 ?_
    obtain ⟨t12, e13, hf0⟩ := ob hf0
    refine r_ldN25 C dX11_back_32 e13 ?_
    refine r_astore_n (lv' := [(1, .ref t12), (0, .ref v0)]) C dX11_back_33 (by decide) rfl rfl ?_
    refine r_aload_n C dX11_back_34 rfl ?_
    refine r_aload_n C dX11_back_35 rfl ?_
    obtain ⟨t14, e15, hf0⟩ := ob hf0
    refine r_getR C fk_X11_267 rfl dX11_back_36 e15 ?_
    obtain ⟨h16, e17, hf0⟩ := ob hf0
    refine r_putR C fk_X11_74 (Or.inl ⟨_, rfl⟩) dX11_back_39 e17 ?_
    refine r_aload_n C dX11_back_42 rfl ?_
    obtain ⟨t18, e19, hf0⟩ := ob hf0
    refine r_getR C fk_X11_45 rfl dX11_back_43 e19 ?_
    refine r_aload_n C dX11_back_46 rfl ?_
    obtain ⟨t20, e21, hf0⟩ := ob hf0
    refine r_getR C fk_X11_371 rfl dX11_back_47 e21 ?_
    obtain ⟨u23, e22, hf0⟩ := ob hf0
    obtain ⟨h24, e25, hf0⟩ := ob hf0
    refine r_cV (ci := 8) (rest := []) (st2 := []) C (s_X8_copyFrom e25) mk_X8_copyFrom rfl (ck_k e22) (by decide) im_X8_copyFrom sl_X8_copyFrom lk_X11_374 rfl rfl rfl dX11_back_50 (Nat.le_of_ble_eq_true rfl) ⟨Nat.le_of_ble_eq_true rfl, Nat.le_of_ble_eq_true rfl⟩ ⟨Nat.le_of_ble_eq_true rfl, Nat.le_of_ble_eq_true rfl⟩ ?_
    refine r_aload_n C dX11_back_53 rfl ?_
    obtain ⟨t26, e27, hf0⟩ := ob hf0
    refine r_getR C fk_X11_92 rfl dX11_back_54 e27 ?_
    refine r_aload_n C dX11_back_57 rfl ?_
    obtain ⟨t28, e29, hf0⟩ := ob hf0
    refine r_getR C fk_X11_267 rfl dX11_back_58 e29 ?_
    refine r_aload_n C dX11_back_61 rfl ?_
    obtain ⟨t30, e31, hf0⟩ := ob hf0
    refine r_getR C fk_X11_378 rfl dX11_back_62 e31 ?_
    obtain ⟨u33, e32, hf0⟩ := ob hf0
    obtain ⟨h34, e35, hf0⟩ := ob hf0
    refine r_cV (ci := 3) (rest := []) (st2 := []) C (s_X3_resume e35) mk_X3_resume rfl (ck_k e32) (by decide) im_X3_resume sl_X3_resume lk_X11_379 rfl rfl rfl dX11_back_65 (Nat.le_of_ble_eq_true rfl) ⟨Nat.le_of_ble_eq_true rfl, Nat.le_of_ble_eq_true rfl⟩ ⟨Nat.le_of_ble_eq_true rfl, Nat.le_of_ble_eq_true rfl⟩ ?_
    refine r_aload_n C dX11_back_68 rfl ?_
    refine r_aload_n C dX11_back_69 rfl ?_
    obtain ⟨t36, e37, hf0⟩ := ob hf0
    refine r_getI C fk_X11_52 rfl dX11_back_70 e37 ?_
    obtain ⟨u39, e38, hf0⟩ := ob hf0
    obtain ⟨t40, h41, e42, hf0⟩ := ob2 hf0
    refine r_cV (ci := 11) (rest := []) (st2 := [.int t40]) C (s_X11_give e42) mk_X11_give rfl (ck_k e38) (by decide) im_X11_give sl_X11_give lk_X11_179 rfl rfl rfl dX11_back_73 (Nat.le_of_ble_eq_true rfl) ⟨Nat.le_of_ble_eq_true rfl, Nat.le_of_ble_eq_true rfl⟩ ⟨Nat.le_of_ble_eq_true rfl, Nat.le_of_ble_eq_true rfl⟩ ?_
    obtain rfl := so hf0
    exact r_iret C dX11_back_76
  · rw [if_pos c3] at hf0
    refine r_aload_n C dX11_back_7 rfl ?_
    refine r_bipush (v := 6) C dX11_back_8 (by decide) ?_
    obtain ⟨u44, e43, hf0⟩ := ob hf0
    obtain ⟨t45, h46, e47, hf0⟩ := ob2 hf0
    refine r_cV (ci := 11) (rest := []) (st2 := [.int t45]) C (s_X11_refuse e47) mk_X11_refuse rfl (ck_k e43) (by decide) im_X11_refuse sl_X11_refuse lk_X11_142 rfl rfl rfl dX11_back_10 (Nat.le_of_ble_eq_true rfl) ⟨Nat.le_of_ble_eq_true rfl, Nat.le_of_ble_eq_true rfl⟩ ⟨Nat.le_of_ble_eq_true rfl, Nat.le_of_ble_eq_true rfl⟩ ?_
    obtain rfl := so hf0
    exact r_iret C dX11_back_13
def f_X12_asNew_b2 (v0 : Nat) (v1 : Int32) (h : aH) : Option ((Int32 × aH) ⊕ (aH)) := if (400 : Int32) ≤ v1 then some (.inr h) else (gR h 12 v0 0).bind fun t1 => (sI h t1 ((1600 : Int32) + v1) (0 : Int32)).bind fun h2 => (some (v1 + (1 : Int32))).bind fun t3 => some (.inl (t3, h2))
def f_X12_asNew_l2 (v0 : Nat) (v1 : Int32) (h : aH) : Option (aH) := whileL wN (fun q : Int32 × aH => f_X12_asNew_b2 v0 q.1 q.2) (v1, h)
def f_X12_asNew_b28 (v0 : Nat) (v1 : Int32) (h : aH) : Option ((Int32 × aH) ⊕ (aH)) := if (52 : Int32) ≤ v1 then some (.inr h) else (gR h 12 v0 1).bind fun t5 => (sJ h t5 ((208 : Int32) + v1) (0 : Int64)).bind fun h6 => (some (v1 + (1 : Int32))).bind fun t7 => some (.inl (t7, h6))
def f_X12_asNew_l28 (v0 : Nat) (v1 : Int32) (h : aH) : Option (aH) := whileL wN (fun q : Int32 × aH => f_X12_asNew_b28 v0 q.1 q.2) (v1, h)
def f_X12_asNew (h : aH) (v0 : Nat) : Option (aH) := (f_X12_asNew_l2 v0 (0 : Int32) h).bind fun h4 => (f_X12_asNew_l28 v0 (0 : Int32) h4).bind fun h8 => (gR h8 12 v0 0).bind fun t9 => (sI h8 t9 (1602 : Int32) (1 : Int32)).bind fun h10 => (gR h10 12 v0 0).bind fun t11 => (sI h10 t11 (1607 : Int32) (-1 : Int32)).bind fun h12 => (gR h12 12 v0 1).bind fun t13 => (sJ h12 t13 (208 : Int32) (1 : Int64)).bind fun h14 => some h14
theorem s_X12_asNew {h : aH} {v0 : Nat} {out : aH} (hf0 : f_X12_asNew h v0 = some out) : EV 0 yX12_asNew cX12_asNew 2 none h [.ref v0] none out 0 0 := by
  refine EV.of (own := RX12) (lv0 := [(0, .ref v0)]) (by decide +kernel) rfl rfl (Nat.le_of_ble_eq_true rfl) ?_
  intro p l e s m args below meth c D cA B Hb C hin
  unfold f_X12_asNew at hf0
  refine r_iconst (v := 0) C dX12_asNew_0 (by decide) ?_
  refine r_istore_n (lv' := [(1, .int (0 : Int32)), (0, .ref v0)]) C dX12_asNew_1 (by decide) rfl rfl ?_
  obtain ⟨y1, hl2, hf0⟩ := ob hf0
  have L2 : ∀ (n : Nat) (t2 : Int32) (h3 : aH), whileL n (fun q : Int32 × aH => f_X12_asNew_b2 v0 q.1 q.2) (t2, h3) = some y1 → gW p l e (rmO 0 0 0) s m args below meth c (MQ below (eQ D cA B Hb out none) args s 0 0 (fun q => B ≤ q)) D cA B Hb 2 h3 2 [(0, .ref v0), (1, .int t2)] [] 0 0 := by
    intro n
    induction n with
    | zero => intro t2 h3 hz; cases hz
    | succ n ih2 =>
      intro t2 h3 hz
      obtain ⟨x2, hf1, hk2⟩ := wl hz
      replace hf1 : f_X12_asNew_b2 v0 t2 h3 = some x2 := hf1
      unfold f_X12_asNew_b2 at hf1
      refine r_iload_n C dX12_asNew_2 rfl ?_
      refine r_sipush (v := 400) C dX12_asNew_3 (by decide) ?_
      refine r_icmp_ge (tgt := 26) C dX12_asNew_6 (by decide) (fun c4 => ?_) (fun c4 => ?_)
      · rw [if_pos c4] at hf1
        obtain rfl := so hf1
        obtain rfl := so (show some h3 = some y1 from hk2)
        refine r_iconst (v := 0) C dX12_asNew_26 (by decide) ?_
        refine r_istore_n (lv' := [(1, .int (0 : Int32)), (0, .ref v0)]) C dX12_asNew_27 (by decide) rfl rfl ?_
        obtain ⟨y5, hl28, hf0⟩ := ob hf0
        have L28 : ∀ (n : Nat) (t6 : Int32) (h7 : aH), whileL n (fun q : Int32 × aH => f_X12_asNew_b28 v0 q.1 q.2) (t6, h7) = some y5 → gW p l e (rmO 0 0 0) s m args below meth c (MQ below (eQ D cA B Hb out none) args s 0 0 (fun q => B ≤ q)) D cA B Hb 2 h7 28 [(0, .ref v0), (1, .int t6)] [] 0 0 := by
          intro n
          induction n with
          | zero => intro t6 h7 hz; cases hz
          | succ n ih28 =>
            intro t6 h7 hz
            obtain ⟨x28, hf1, hk28⟩ := wl hz
            replace hf1 : f_X12_asNew_b28 v0 t6 h7 = some x28 := hf1
            unfold f_X12_asNew_b28 at hf1
            refine r_iload_n C dX12_asNew_28 rfl ?_
            refine r_bipush (v := 52) C dX12_asNew_29 (by decide) ?_
            refine r_icmp_ge (tgt := 51) C dX12_asNew_31 (by decide) (fun c8 => ?_) (fun c8 => ?_)
            · rw [if_pos c8] at hf1
              obtain rfl := so hf1
              obtain rfl := so (show some h7 = some y5 from hk28)
              refine r_aload_n C dX12_asNew_51 rfl ?_
              obtain ⟨t9, e10, hf0⟩ := ob hf0
              refine r_getR C fk_X12_7 rfl dX12_asNew_52 e10 ?_
              refine r_sipush (v := 1602) C dX12_asNew_55 (by decide) ?_
              refine r_iconst (v := 1) C dX12_asNew_58 (by decide) ?_
              obtain ⟨h11, e12, hf0⟩ := ob hf0
              refine r_stI C dX12_asNew_59 e12 ?_
              refine r_aload_n C dX12_asNew_60 rfl ?_
              obtain ⟨t13, e14, hf0⟩ := ob hf0
              refine r_getR C fk_X12_7 rfl dX12_asNew_61 e14 ?_
              refine r_sipush (v := 1607) C dX12_asNew_64 (by decide) ?_
              refine r_iconst (v := -1) C dX12_asNew_67 (by decide) ?_
              obtain ⟨h15, e16, hf0⟩ := ob hf0
              refine r_stI C dX12_asNew_68 e16 ?_
              refine r_aload_n C dX12_asNew_69 rfl ?_
              obtain ⟨t17, e18, hf0⟩ := ob hf0
              refine r_getR C fk_X12_13 rfl dX12_asNew_70 e18 ?_
              refine r_sipush (v := 208) C dX12_asNew_73 (by decide) ?_
              refine r_lconst (v := 1) C dX12_asNew_76 (by decide) ?_
              obtain ⟨h19, e20, hf0⟩ := ob hf0
              refine r_stJ C dX12_asNew_77 e20 ?_
              obtain rfl := so hf0
              exact r_vret C dX12_asNew_78
            · rw [if_neg c8] at hf1
              refine r_aload_n C dX12_asNew_34 rfl ?_
              obtain ⟨t21, e22, hf1⟩ := ob hf1
              refine r_getR C fk_X12_13 rfl dX12_asNew_35 e22 ?_
              refine r_sipush (v := 208) C dX12_asNew_38 (by decide) ?_
              refine r_iload_n C dX12_asNew_41 rfl ?_
              refine r_iadd C dX12_asNew_42 ?_
              refine r_lconst (v := 0) C dX12_asNew_43 (by decide) ?_
              obtain ⟨h23, e24, hf1⟩ := ob hf1
              refine r_stJ C dX12_asNew_44 e24 ?_
              obtain ⟨t25, e26, hf1⟩ := ob hf1
              refine r_iinc (lv' := [(1, .int t25), (0, .ref v0)]) C dX12_asNew_45 rfl e26 (by decide) rfl ?_
              refine r_goto (tgt := 28) C dX12_asNew_48 (by decide) ?_
              obtain rfl := so hf1
              refine r_subk [1, 0] (lv' := [(0, .ref v0), (1, .int t25)]) rfl ?_
              exact ih28 t25 h23 hk28
        refine r_subk [1, 0] (lv' := [(0, .ref v0), (1, .int (0 : Int32))]) rfl ?_
        exact L28 wN (0 : Int32) h3 hl28
      · rw [if_neg c4] at hf1
        refine r_aload_n C dX12_asNew_9 rfl ?_
        obtain ⟨t27, e28, hf1⟩ := ob hf1
        refine r_getR C fk_X12_7 rfl dX12_asNew_10 e28 ?_
        refine r_sipush (v := 1600) C dX12_asNew_13 (by decide) ?_
        refine r_iload_n C dX12_asNew_16 rfl ?_
        refine r_iadd C dX12_asNew_17 ?_
        refine r_iconst (v := 0) C dX12_asNew_18 (by decide) ?_
        obtain ⟨h29, e30, hf1⟩ := ob hf1
        refine r_stI C dX12_asNew_19 e30 ?_
        obtain ⟨t31, e32, hf1⟩ := ob hf1
        refine r_iinc (lv' := [(1, .int t31), (0, .ref v0)]) C dX12_asNew_20 rfl e32 (by decide) rfl ?_
        refine r_goto (tgt := 2) C dX12_asNew_23 (by decide) ?_
        obtain rfl := so hf1
        refine r_subk [1, 0] (lv' := [(0, .ref v0), (1, .int t31)]) rfl ?_
        exact ih2 t31 h29 hk2
  refine r_subk [1, 0] (lv' := [(0, .ref v0), (1, .int (0 : Int32))]) rfl ?_
  exact L2 wN (0 : Int32) h hl2
def f_X12_inSet (h : aH) (v0 : Nat) (v1 : Int32) (v2 : Int32) : Option (Int32) := (nz (64 : Int32)).bind fun _ => (lJ h v0 (v1 + (v2 / (64 : Int32)))).bind fun t1 => (nz (64 : Int32)).bind fun _ => if (lg_cmp ((t1 >>> (Int32.toInt64 (v2 - v2 / (64 : Int32) * (64 : Int32)) &&& 63)) &&& (1 : Int64)) (1 : Int64)) = 0 then some (1 : Int32) else some (0 : Int32)
theorem s_X12_inSet {h : aH} {v0 : Nat} {v1 : Int32} {v2 : Int32} {out : Int32} (hf0 : f_X12_inSet h v0 v1 v2 = some out) : EV 0 yX12_inSet cX12_inSet 3 (some .boolean) h [.ref v0, .int v1, .int v2] (some (.int out)) h 0 0 := by
  refine EV.of (own := RX12) (lv0 := [(0, .ref v0), (1, .int v1), (2, .int v2)]) (by decide +kernel) rfl rfl (Nat.le_of_ble_eq_true rfl) ?_
  intro p l e s m args below meth c D cA B Hb C hin
  unfold f_X12_inSet at hf0
  refine r_aload_n C dX12_inSet_0 rfl ?_
  refine r_iload_n C dX12_inSet_1 rfl ?_
  refine r_iload_n C dX12_inSet_2 rfl ?_
  refine r_bipush (v := 64) C dX12_inSet_3 (by decide) ?_
  obtain ⟨u2, e1, hf0⟩ := ob hf0
  refine r_idiv C dX12_inSet_5 (nz_k e1) ?_
  refine r_iadd C dX12_inSet_6 ?_
  obtain ⟨t3, e4, hf0⟩ := ob hf0
  refine r_ldJ C dX12_inSet_7 e4 ?_
  refine r_iload_n C dX12_inSet_8 rfl ?_
  refine r_bipush (v := 64) C dX12_inSet_9 (by decide) ?_
  obtain ⟨u6, e5, hf0⟩ := ob hf0
  refine r_irem C dX12_inSet_11 (nz_k e5) ?_
  refine r_lshr C dX12_inSet_12 ?_
  refine r_lconst (v := 1) C dX12_inSet_13 (by decide) ?_
  refine r_land C dX12_inSet_14 ?_
  refine r_lconst (v := 1) C dX12_inSet_15 (by decide) ?_
  refine r_lcmp C dX12_inSet_16 ?_
  refine r_ifne (tgt := 24) C dX12_inSet_17 (by decide) (fun c7 => ?_) (fun c7 => ?_)
  · rw [if_neg c7] at hf0
    refine r_iconst (v := 0) C dX12_inSet_24 (by decide) ?_
    obtain rfl := so hf0
    exact r_zret C dX12_inSet_25 (Or.inl rfl)
  · rw [if_pos c7] at hf0
    refine r_iconst (v := 1) C dX12_inSet_20 (by decide) ?_
    refine r_goto (tgt := 25) C dX12_inSet_21 (by decide) ?_
    obtain rfl := so hf0
    exact r_zret C dX12_inSet_25 (Or.inr rfl)
def f_X12_isPossible (h : aH) (v0 : Nat) (v1 : Int32) : Option (Int32) := (gR h 12 v0 1).bind fun t1 => (f_X12_inSet h t1 (0 : Int32) v1).bind fun t2 => (rZ t2).bind fun t3 => some t3
theorem s_X12_isPossible {h : aH} {v0 : Nat} {v1 : Int32} {out : Int32} (hf0 : f_X12_isPossible h v0 v1 = some out) : EV 1 yX12_isPossible cX12_isPossible 2 (some .boolean) h [.ref v0, .int v1] (some (.int out)) h 0 0 := by
  refine EV.of (own := RX12) (lv0 := [(0, .ref v0), (1, .int v1)]) (by decide +kernel) rfl rfl (Nat.le_of_ble_eq_true rfl) ?_
  intro p l e s m args below meth c D cA B Hb C hin
  unfold f_X12_isPossible at hf0
  refine r_aload_n C dX12_isPossible_0 rfl ?_
  obtain ⟨t1, e2, hf0⟩ := ob hf0
  refine r_getR C fk_X12_13 rfl dX12_isPossible_1 e2 ?_
  refine r_iconst (v := 0) C dX12_isPossible_4 (by decide) ?_
  refine r_iload_n C dX12_isPossible_5 rfl ?_
  obtain ⟨t3, e4, hf0⟩ := ob hf0
  refine r_cS (rest := []) (st2 := [.int t3]) C (s_X12_inSet e4) mk_X12_inSet sm_X12_inSet lk_X12_303 rfl rfl rfl dX12_isPossible_6 (Nat.le_of_ble_eq_true rfl) ⟨Nat.le_of_ble_eq_true rfl, Nat.le_of_ble_eq_true rfl⟩ ⟨Nat.le_of_ble_eq_true rfl, Nat.le_of_ble_eq_true rfl⟩ ?_
  obtain ⟨t5, e6, hf0⟩ := ob hf0
  obtain ⟨rfl, e6z⟩ := rZ_k e6
  obtain rfl := so hf0
  exact r_zret C dX12_isPossible_9 e6z
def f_X12_ofWitness (h : aH) (v0 : Nat) (v1 : Int32) (v2 : Int32) : Option (Int32) := (gR h 12 v0 0).bind fun t1 => (lI h t1 (((76 : Int32) + ((6 : Int32) * v1)) + v2)).bind fun t2 => some t2
theorem s_X12_ofWitness {h : aH} {v0 : Nat} {v1 : Int32} {v2 : Int32} {out : Int32} (hf0 : f_X12_ofWitness h v0 v1 v2 = some out) : EV 0 yX12_ofWitness cX12_ofWitness 3 (some .int) h [.ref v0, .int v1, .int v2] (some (.int out)) h 0 0 := by
  refine EV.of (own := RX12) (lv0 := [(0, .ref v0), (1, .int v1), (2, .int v2)]) (by decide +kernel) rfl rfl (Nat.le_of_ble_eq_true rfl) ?_
  intro p l e s m args below meth c D cA B Hb C hin
  unfold f_X12_ofWitness at hf0
  refine r_aload_n C dX12_ofWitness_0 rfl ?_
  obtain ⟨t1, e2, hf0⟩ := ob hf0
  refine r_getR C fk_X12_7 rfl dX12_ofWitness_1 e2 ?_
  refine r_bipush (v := 76) C dX12_ofWitness_4 (by decide) ?_
  refine r_bipush (v := 6) C dX12_ofWitness_6 (by decide) ?_
  refine r_iload_n C dX12_ofWitness_8 rfl ?_
  refine r_imul C dX12_ofWitness_9 ?_
  refine r_iadd C dX12_ofWitness_10 ?_
  refine r_iload_n C dX12_ofWitness_11 rfl ?_
  refine r_iadd C dX12_ofWitness_12 ?_
  obtain ⟨t3, e4, hf0⟩ := ob hf0
  refine r_ldI C dX12_ofWitness_13 e4 ?_
  obtain rfl := so hf0
  exact r_iret C dX12_ofWitness_14
def f_X12_valueIn_b15 (h : aH) (v0 : Nat) (v1 : Int32) (v3 : Int32) (v4 : Int32) (v5 : Int32) : Option ((Int32 × Int32) ⊕ (Int32)) := if v5 ≤ v3 then some (.inr v4) else (gR h 12 v0 0).bind fun t4 => (lI h t4 ((v1 + (60 : Int32)) + v5)).bind fun t5 => (nz t5).bind fun _ => (some (v4 / t5)).bind fun t6 => (some (v5 + (-1 : Int32))).bind fun t7 => some (.inl (t6, t7))
def f_X12_valueIn_l15 (h : aH) (v0 : Nat) (v1 : Int32) (v3 : Int32) (v4 : Int32) (v5 : Int32) : Option (Int32) := whileL wN (fun q : Int32 × Int32 => f_X12_valueIn_b15 h v0 v1 v3 q.1 q.2) (v4, v5)
def f_X12_valueIn (h : aH) (v0 : Nat) (v1 : Int32) (v2 : Int32) (v3 : Int32) : Option (Int32) := (gR h 12 v0 0).bind fun t1 => (lI h t1 (v1 + (0 : Int32))).bind fun t2 => (some (t2 - (1 : Int32))).bind fun t3 => (f_X12_valueIn_l15 h v0 v1 v3 v2 t3).bind fun t8 => (gR h 12 v0 0).bind fun t9 => (lI h t9 ((v1 + (56 : Int32)) + v3)).bind fun t10 => (gR h 12 v0 0).bind fun t11 => (lI h t11 ((v1 + (60 : Int32)) + v3)).bind fun t12 => (nz t12).bind fun _ => some (t10 + (t8 - t8 / t12 * t12))
theorem s_X12_valueIn {h : aH} {v0 : Nat} {v1 : Int32} {v2 : Int32} {v3 : Int32} {out : Int32} (hf0 : f_X12_valueIn h v0 v1 v2 v3 = some out) : EV 0 yX12_valueIn cX12_valueIn 6 (some .int) h [.ref v0, .int v1, .int v2, .int v3] (some (.int out)) h 0 0 := by
  refine EV.of (own := RX12) (lv0 := [(0, .ref v0), (1, .int v1), (2, .int v2), (3, .int v3)]) (by decide +kernel) rfl rfl (Nat.le_of_ble_eq_true rfl) ?_
  intro p l e s m args below meth c D cA B Hb C hin
  unfold f_X12_valueIn at hf0
  refine r_iload_n C dX12_valueIn_0 rfl ?_
  refine r_istore (lv' := [(4, .int v2), (0, .ref v0), (1, .int v1), (2, .int v2), (3, .int v3)]) C dX12_valueIn_1 (by decide) rfl rfl ?_
  refine r_aload_n C dX12_valueIn_3 rfl ?_
  obtain ⟨t1, e2, hf0⟩ := ob hf0
  refine r_getR C fk_X12_7 rfl dX12_valueIn_4 e2 ?_
  refine r_iload_n C dX12_valueIn_7 rfl ?_
  refine r_iconst (v := 0) C dX12_valueIn_8 (by decide) ?_
  refine r_iadd C dX12_valueIn_9 ?_
  obtain ⟨t3, e4, hf0⟩ := ob hf0
  refine r_ldI C dX12_valueIn_10 e4 ?_
  refine r_iconst (v := 1) C dX12_valueIn_11 (by decide) ?_
  refine r_isub C dX12_valueIn_12 ?_
  obtain ⟨t5, e6, hf0⟩ := ob hf0
  refine r_istore (lv' := [(5, .int t5), (4, .int v2), (0, .ref v0), (1, .int v1), (2, .int v2), (3, .int v3)]) C dX12_valueIn_13 (by decide) e6 rfl ?_
  obtain ⟨y7, hl15, hf0⟩ := ob hf0
  have L15 : ∀ (n : Nat) (t8 : Int32) (t9 : Int32), whileL n (fun q : Int32 × Int32 => f_X12_valueIn_b15 h v0 v1 v3 q.1 q.2) (t8, t9) = some y7 → gW p l e (rmO 0 0 0) s m args below meth c (MQ below (eQ D cA B Hb h (some (.int out))) args s 0 0 (fun q => B ≤ q)) D cA B Hb 6 h 15 [(0, .ref v0), (1, .int v1), (3, .int v3), (4, .int t8), (5, .int t9)] [] 0 0 := by
    intro n
    induction n with
    | zero => intro t8 t9 hz; cases hz
    | succ n ih15 =>
      intro t8 t9 hz
      obtain ⟨x15, hf1, hk15⟩ := wl hz
      replace hf1 : f_X12_valueIn_b15 h v0 v1 v3 t8 t9 = some x15 := hf1
      unfold f_X12_valueIn_b15 at hf1
      refine r_iload C dX12_valueIn_15 rfl ?_
      refine r_iload_n C dX12_valueIn_17 rfl ?_
      refine r_icmp_le (tgt := 44) C dX12_valueIn_18 (by decide) (fun c10 => ?_) (fun c10 => ?_)
      · rw [if_pos c10] at hf1
        obtain rfl := so hf1
        obtain rfl := so (show some t8 = some y7 from hk15)
        refine r_aload_n C dX12_valueIn_44 rfl ?_
        obtain ⟨t11, e12, hf0⟩ := ob hf0
        refine r_getR C fk_X12_7 rfl dX12_valueIn_45 e12 ?_
        refine r_iload_n C dX12_valueIn_48 rfl ?_
        refine r_bipush (v := 56) C dX12_valueIn_49 (by decide) ?_
        refine r_iadd C dX12_valueIn_51 ?_
        refine r_iload_n C dX12_valueIn_52 rfl ?_
        refine r_iadd C dX12_valueIn_53 ?_
        obtain ⟨t13, e14, hf0⟩ := ob hf0
        refine r_ldI C dX12_valueIn_54 e14 ?_
        refine r_iload C dX12_valueIn_55 rfl ?_
        refine r_aload_n C dX12_valueIn_57 rfl ?_
        obtain ⟨t15, e16, hf0⟩ := ob hf0
        refine r_getR C fk_X12_7 rfl dX12_valueIn_58 e16 ?_
        refine r_iload_n C dX12_valueIn_61 rfl ?_
        refine r_bipush (v := 60) C dX12_valueIn_62 (by decide) ?_
        refine r_iadd C dX12_valueIn_64 ?_
        refine r_iload_n C dX12_valueIn_65 rfl ?_
        refine r_iadd C dX12_valueIn_66 ?_
        obtain ⟨t17, e18, hf0⟩ := ob hf0
        refine r_ldI C dX12_valueIn_67 e18 ?_
        obtain ⟨u20, e19, hf0⟩ := ob hf0
        refine r_irem C dX12_valueIn_68 (nz_k e19) ?_
        refine r_iadd C dX12_valueIn_69 ?_
        obtain rfl := so hf0
        exact r_iret C dX12_valueIn_70
      · rw [if_neg c10] at hf1
        refine r_iload C dX12_valueIn_21 rfl ?_
        refine r_aload_n C dX12_valueIn_23 rfl ?_
        obtain ⟨t21, e22, hf1⟩ := ob hf1
        refine r_getR C fk_X12_7 rfl dX12_valueIn_24 e22 ?_
        refine r_iload_n C dX12_valueIn_27 rfl ?_
        refine r_bipush (v := 60) C dX12_valueIn_28 (by decide) ?_
        refine r_iadd C dX12_valueIn_30 ?_
        refine r_iload C dX12_valueIn_31 rfl ?_
        refine r_iadd C dX12_valueIn_33 ?_
        obtain ⟨t23, e24, hf1⟩ := ob hf1
        refine r_ldI C dX12_valueIn_34 e24 ?_
        obtain ⟨u26, e25, hf1⟩ := ob hf1
        refine r_idiv C dX12_valueIn_35 (nz_k e25) ?_
        obtain ⟨t27, e28, hf1⟩ := ob hf1
        refine r_istore (lv' := [(4, .int t27), (0, .ref v0), (1, .int v1), (3, .int v3), (5, .int t9)]) C dX12_valueIn_36 (by decide) e28 rfl ?_
        obtain ⟨t29, e30, hf1⟩ := ob hf1
        refine r_iinc (lv' := [(5, .int t29), (4, .int t27), (0, .ref v0), (1, .int v1), (3, .int v3)]) C dX12_valueIn_38 rfl e30 (by decide) rfl ?_
        refine r_goto (tgt := 15) C dX12_valueIn_41 (by decide) ?_
        obtain rfl := so hf1
        refine r_subk [2, 3, 4, 1, 0] (lv' := [(0, .ref v0), (1, .int v1), (3, .int v3), (4, .int t27), (5, .int t29)]) rfl ?_
        exact ih15 t27 t29 hk15
  refine r_subk [2, 3, 5, 1, 0] (lv' := [(0, .ref v0), (1, .int v1), (3, .int v3), (4, .int v2), (5, .int t5)]) rfl ?_
  exact L15 wN v2 t5 hl15
def f_X12_knowsIn_b2 (v0 : Nat) (v1 : Int32) (v2 : Int32) (v3 : Int32) (h : aH) : Option ((Int32 × aH) ⊕ (aH)) := if (4 : Int32) ≤ v3 then some (.inr h) else (gR h 12 v0 32).bind fun t1 => (sJ h t1 v3 (0 : Int64)).bind fun h2 => (some (v3 + (1 : Int32))).bind fun t3 => some (.inl (t3, h2))
def f_X12_knowsIn_l2 (v0 : Nat) (v1 : Int32) (v2 : Int32) (v3 : Int32) (h : aH) : Option (aH) := whileL wN (fun q : Int32 × aH => f_X12_knowsIn_b2 v0 v1 v2 q.1 q.2) (v3, h)
def f_X12_knowsIn_j127 (h : aH) (v0 : Nat) (v1 : Int32) (v2 : Int32) (v3 : Int32) : Option ((Int32 × aH) ⊕ (aH)) := (some (v3 + (1 : Int32))).bind fun t5 => some (.inl (t5, h))
def f_X12_knowsIn_j96 (h : aH) (v0 : Nat) (v1 : Int32) (v2 : Int32) (v3 : Int32) (v5 : Int32) (s0 : Int32) : Option ((Int32 × Int32) ⊕ (Int32)) := (some (v5 + (1 : Int32))).bind fun t9 => some (.inl (s0, t9))
def f_X12_knowsIn_j95 (h : aH) (v0 : Nat) (v1 : Int32) (v2 : Int32) (v3 : Int32) (v5 : Int32) : Option ((Int32 × Int32) ⊕ (Int32)) := f_X12_knowsIn_j96 h v0 v1 v2 v3 v5 (0 : Int32)
def f_X12_knowsIn_j91 (h : aH) (v0 : Nat) (v1 : Int32) (v2 : Int32) (v3 : Int32) (v5 : Int32) : Option ((Int32 × Int32) ⊕ (Int32)) := f_X12_knowsIn_j96 h v0 v1 v2 v3 v5 (1 : Int32)
def f_X12_knowsIn_b42 (h : aH) (v0 : Nat) (v1 : Int32) (v2 : Int32) (v3 : Int32) (v4 : Int32) (v5 : Int32) : Option ((Int32 × Int32) ⊕ (Int32)) := (gR h 12 v0 0).bind fun t10 => (lI h t10 (0 : Int32)).bind fun t11 => if t11 ≤ v5 then some (.inr v4) else if v4 = 0 then f_X12_knowsIn_j95 h v0 v1 v2 v3 v5 else (ck h 12 v0).bind fun _ => (f_X12_ofWitness h v0 v1 (4 : Int32)).bind fun t12 => if ((t12 >>> (v5 &&& 31)) &&& (1 : Int32)) = 0 then f_X12_knowsIn_j91 h v0 v1 v2 v3 v5 else (ck h 12 v0).bind fun _ => (f_X12_valueIn h v0 (0 : Int32) v3 v5).bind fun t13 => (ck h 12 v0).bind fun _ => (f_X12_valueIn h v0 (0 : Int32) v2 v5).bind fun t14 => if t13 = t14 then f_X12_knowsIn_j91 h v0 v1 v2 v3 v5 else f_X12_knowsIn_j95 h v0 v1 v2 v3 v5
def f_X12_knowsIn_l42 (h : aH) (v0 : Nat) (v1 : Int32) (v2 : Int32) (v3 : Int32) (v4 : Int32) (v5 : Int32) : Option (Int32) := whileL wN (fun q : Int32 × Int32 => f_X12_knowsIn_b42 h v0 v1 v2 v3 q.1 q.2) (v4, v5)
def f_X12_knowsIn_b22 (v0 : Nat) (v1 : Int32) (v2 : Int32) (v3 : Int32) (h : aH) : Option ((Int32 × aH) ⊕ (aH)) := (gR h 12 v0 0).bind fun t6 => (lI h t6 (2 : Int32)).bind fun t7 => if t7 ≤ v3 then some (.inr h) else (ck h 12 v0).bind fun _ => (f_X12_isPossible h v0 v3).bind fun t8 => (f_X12_knowsIn_l42 h v0 v1 v2 v3 t8 (0 : Int32)).bind fun t15 => if t15 = 0 then f_X12_knowsIn_j127 h v0 v1 v2 v3 else (gR h 12 v0 32).bind fun t16 => (nz (64 : Int32)).bind fun _ => (lJ h t16 (v3 / (64 : Int32))).bind fun t17 => (nz (64 : Int32)).bind fun _ => (sJ h t16 (v3 / (64 : Int32)) (t17 ||| ((1 : Int64) <<< (Int32.toInt64 (v3 - v3 / (64 : Int32) * (64 : Int32)) &&& 63)))).bind fun h18 => f_X12_knowsIn_j127 h18 v0 v1 v2 v3
def f_X12_knowsIn_l22 (v0 : Nat) (v1 : Int32) (v2 : Int32) (v3 : Int32) (h : aH) : Option (aH) := whileL wN (fun q : Int32 × aH => f_X12_knowsIn_b22 v0 v1 v2 q.1 q.2) (v3, h)
def f_X12_knowsIn (h : aH) (v0 : Nat) (v1 : Int32) (v2 : Int32) : Option (aH) := (f_X12_knowsIn_l2 v0 v1 v2 (0 : Int32) h).bind fun h4 => (f_X12_knowsIn_l22 v0 v1 v2 (0 : Int32) h4).bind fun h19 => some h19
theorem s_X12_knowsIn {h : aH} {v0 : Nat} {v1 : Int32} {v2 : Int32} {out : aH} (hf0 : f_X12_knowsIn h v0 v1 v2 = some out) : EV 2 yX12_knowsIn cX12_knowsIn 6 none h [.ref v0, .int v1, .int v2] none out 0 0 := by
  refine EV.of (own := RX12) (lv0 := [(0, .ref v0), (1, .int v1), (2, .int v2)]) (by decide +kernel) rfl rfl (Nat.le_of_ble_eq_true rfl) ?_
  intro p l e s m args below meth c D cA B Hb C hin
  unfold f_X12_knowsIn at hf0
  refine r_iconst (v := 0) C dX12_knowsIn_0 (by decide) ?_
  refine r_istore_n (lv' := [(3, .int (0 : Int32)), (0, .ref v0), (1, .int v1), (2, .int v2)]) C dX12_knowsIn_1 (by decide) rfl rfl ?_
  obtain ⟨y1, hl2, hf0⟩ := ob hf0
  have L2 : ∀ (n : Nat) (t2 : Int32) (h3 : aH), whileL n (fun q : Int32 × aH => f_X12_knowsIn_b2 v0 v1 v2 q.1 q.2) (t2, h3) = some y1 → gW p l e (rmO 2 0 0) s m args below meth c (MQ below (eQ D cA B Hb out none) args s 0 0 (fun q => B ≤ q)) D cA B Hb 6 h3 2 [(0, .ref v0), (1, .int v1), (2, .int v2), (3, .int t2)] [] 0 0 := by
    intro n
    induction n with
    | zero => intro t2 h3 hz; cases hz
    | succ n ih2 =>
      intro t2 h3 hz
      obtain ⟨x2, hf1, hk2⟩ := wl hz
      replace hf1 : f_X12_knowsIn_b2 v0 v1 v2 t2 h3 = some x2 := hf1
      unfold f_X12_knowsIn_b2 at hf1
      refine r_iload_n C dX12_knowsIn_2 rfl ?_
      refine r_iconst (v := 4) C dX12_knowsIn_3 (by decide) ?_
      refine r_icmp_ge (tgt := 20) C dX12_knowsIn_4 (by decide) (fun c4 => ?_) (fun c4 => ?_)
      · rw [if_pos c4] at hf1
        obtain rfl := so hf1
        obtain rfl := so (show some h3 = some y1 from hk2)
        refine r_iconst (v := 0) C dX12_knowsIn_20 (by decide) ?_
        refine r_istore_n (lv' := [(3, .int (0 : Int32)), (0, .ref v0), (1, .int v1), (2, .int v2)]) C dX12_knowsIn_21 (by decide) rfl rfl ?_
        obtain ⟨y5, hl22, hf0⟩ := ob hf0
        have L22 : ∀ (n : Nat) (t6 : Int32) (h7 : aH), whileL n (fun q : Int32 × aH => f_X12_knowsIn_b22 v0 v1 v2 q.1 q.2) (t6, h7) = some y5 → gW p l e (rmO 2 0 0) s m args below meth c (MQ below (eQ D cA B Hb out none) args s 0 0 (fun q => B ≤ q)) D cA B Hb 6 h7 22 [(0, .ref v0), (1, .int v1), (2, .int v2), (3, .int t6)] [] 0 0 := by
          intro n
          induction n with
          | zero => intro t6 h7 hz; cases hz
          | succ n ih22 =>
            intro t6 h7 hz
            obtain ⟨x22, hf1, hk22⟩ := wl hz
            replace hf1 : f_X12_knowsIn_b22 v0 v1 v2 t6 h7 = some x22 := hf1
            unfold f_X12_knowsIn_b22 at hf1
            have J127 : ∀ (h8 : aH) (t9 : Int32), f_X12_knowsIn_j127 h8 v0 v1 v2 t9 = some x22 → gW p l e (rmO 2 0 0) s m args below meth c (MQ below (eQ D cA B Hb out none) args s 0 0 (fun q => B ≤ q)) D cA B Hb 6 h8 127 [(0, .ref v0), (1, .int v1), (2, .int v2), (3, .int t9)] [] 0 0 := by
              intro h8 t9 hf1
              unfold f_X12_knowsIn_j127 at hf1
              obtain ⟨t10, e11, hf1⟩ := ob hf1
              refine r_iinc (lv' := [(3, .int t10), (0, .ref v0), (1, .int v1), (2, .int v2)]) C dX12_knowsIn_127 rfl e11 (by decide) rfl ?_
              refine r_goto (tgt := 22) C dX12_knowsIn_130 (by decide) ?_
              obtain rfl := so hf1
              refine r_subk [1, 2, 3, 0] (lv' := [(0, .ref v0), (1, .int v1), (2, .int v2), (3, .int t10)]) rfl ?_
              exact ih22 t10 h8 hk22
            refine r_iload_n C dX12_knowsIn_22 rfl ?_
            refine r_aload_n C dX12_knowsIn_23 rfl ?_
            obtain ⟨t12, e13, hf1⟩ := ob hf1
            refine r_getR C fk_X12_7 rfl dX12_knowsIn_24 e13 ?_
            refine r_iconst (v := 2) C dX12_knowsIn_27 (by decide) ?_
            obtain ⟨t14, e15, hf1⟩ := ob hf1
            refine r_ldI C dX12_knowsIn_28 e15 ?_
            refine r_icmp_ge (tgt := 133) C dX12_knowsIn_29 (by decide) (fun c16 => ?_) (fun c16 => ?_)
            · rw [if_pos c16] at hf1
              obtain rfl := so hf1
              obtain rfl := so (show some h7 = some y5 from hk22)
              obtain rfl := so hf0
              exact r_vret C dX12_knowsIn_133
            · rw [if_neg c16] at hf1
              refine r_aload_n C dX12_knowsIn_32 rfl ?_
              refine r_iload_n C dX12_knowsIn_33 rfl ?_
              obtain ⟨u18, e17, hf1⟩ := ob hf1
              obtain ⟨t19, e20, hf1⟩ := ob hf1
              refine r_cV (ci := 12) (rest := []) (st2 := [.int t19]) C (s_X12_isPossible e20) mk_X12_isPossible rfl (ck_k e17) (by decide) im_X12_isPossible sl_X12_isPossible lk_X12_331 rfl rfl rfl dX12_knowsIn_34 (Nat.le_of_ble_eq_true rfl) ⟨Nat.le_of_ble_eq_true rfl, Nat.le_of_ble_eq_true rfl⟩ ⟨Nat.le_of_ble_eq_true rfl, Nat.le_of_ble_eq_true rfl⟩ ?_
              refine r_istore (lv' := [(4, .int t19), (0, .ref v0), (1, .int v1), (2, .int v2), (3, .int t6)]) C dX12_knowsIn_37 (by decide) rfl rfl ?_
              refine r_iconst (v := 0) C dX12_knowsIn_39 (by decide) ?_
              refine r_istore (lv' := [(5, .int (0 : Int32)), (4, .int t19), (0, .ref v0), (1, .int v1), (2, .int v2), (3, .int t6)]) C dX12_knowsIn_40 (by decide) rfl rfl ?_
              obtain ⟨y21, hl42, hf1⟩ := ob hf1
              have L42 : ∀ (n : Nat) (t22 : Int32) (t23 : Int32), whileL n (fun q : Int32 × Int32 => f_X12_knowsIn_b42 h7 v0 v1 v2 t6 q.1 q.2) (t22, t23) = some y21 → gW p l e (rmO 2 0 0) s m args below meth c (MQ below (eQ D cA B Hb out none) args s 0 0 (fun q => B ≤ q)) D cA B Hb 6 h7 42 [(0, .ref v0), (1, .int v1), (2, .int v2), (3, .int t6), (4, .int t22), (5, .int t23)] [] 0 0 := by
                intro n
                induction n with
                | zero => intro t22 t23 hz; cases hz
                | succ n ih42 =>
                  intro t22 t23 hz
                  obtain ⟨x42, hf2, hk42⟩ := wl hz
                  replace hf2 : f_X12_knowsIn_b42 h7 v0 v1 v2 t6 t22 t23 = some x42 := hf2
                  unfold f_X12_knowsIn_b42 at hf2
                  have J96 : ∀ (t24 : Int32) (t25 : Int32), f_X12_knowsIn_j96 h7 v0 v1 v2 t6 t24 t25 = some x42 → gW p l e (rmO 2 0 0) s m args below meth c (MQ below (eQ D cA B Hb out none) args s 0 0 (fun q => B ≤ q)) D cA B Hb 6 h7 96 [(0, .ref v0), (1, .int v1), (2, .int v2), (3, .int t6), (5, .int t24)] [.int t25] 0 0 := by
                    intro t24 t25 hf2
                    unfold f_X12_knowsIn_j96 at hf2
                    refine r_istore (lv' := [(4, .int t25), (0, .ref v0), (1, .int v1), (2, .int v2), (3, .int t6), (5, .int t24)]) C dX12_knowsIn_96 (by decide) rfl rfl ?_
                    obtain ⟨t26, e27, hf2⟩ := ob hf2
                    refine r_iinc (lv' := [(5, .int t26), (4, .int t25), (0, .ref v0), (1, .int v1), (2, .int v2), (3, .int t6)]) C dX12_knowsIn_98 rfl e27 (by decide) rfl ?_
                    refine r_goto (tgt := 42) C dX12_knowsIn_101 (by decide) ?_
                    obtain rfl := so hf2
                    refine r_subk [2, 3, 4, 5, 1, 0] (lv' := [(0, .ref v0), (1, .int v1), (2, .int v2), (3, .int t6), (4, .int t25), (5, .int t26)]) rfl ?_
                    exact ih42 t25 t26 hk42
                  have J95 : ∀ (t28 : Int32), f_X12_knowsIn_j95 h7 v0 v1 v2 t6 t28 = some x42 → gW p l e (rmO 2 0 0) s m args below meth c (MQ below (eQ D cA B Hb out none) args s 0 0 (fun q => B ≤ q)) D cA B Hb 6 h7 95 [(0, .ref v0), (1, .int v1), (2, .int v2), (3, .int t6), (5, .int t28)] [] 0 0 := by
                    intro t28 hf2
                    unfold f_X12_knowsIn_j95 at hf2
                    refine r_iconst (v := 0) C dX12_knowsIn_95 (by decide) ?_
                    exact J96 t28 (0 : Int32) hf2
                  have J91 : ∀ (t29 : Int32), f_X12_knowsIn_j91 h7 v0 v1 v2 t6 t29 = some x42 → gW p l e (rmO 2 0 0) s m args below meth c (MQ below (eQ D cA B Hb out none) args s 0 0 (fun q => B ≤ q)) D cA B Hb 6 h7 91 [(0, .ref v0), (1, .int v1), (2, .int v2), (3, .int t6), (5, .int t29)] [] 0 0 := by
                    intro t29 hf2
                    unfold f_X12_knowsIn_j91 at hf2
                    refine r_iconst (v := 1) C dX12_knowsIn_91 (by decide) ?_
                    refine r_goto (tgt := 96) C dX12_knowsIn_92 (by decide) ?_
                    exact J96 t29 (1 : Int32) hf2
                  refine r_iload C dX12_knowsIn_42 rfl ?_
                  refine r_aload_n C dX12_knowsIn_44 rfl ?_
                  obtain ⟨t30, e31, hf2⟩ := ob hf2
                  refine r_getR C fk_X12_7 rfl dX12_knowsIn_45 e31 ?_
                  refine r_iconst (v := 0) C dX12_knowsIn_48 (by decide) ?_
                  obtain ⟨t32, e33, hf2⟩ := ob hf2
                  refine r_ldI C dX12_knowsIn_49 e33 ?_
                  refine r_icmp_ge (tgt := 104) C dX12_knowsIn_50 (by decide) (fun c34 => ?_) (fun c34 => ?_)
                  · rw [if_pos c34] at hf2
                    obtain rfl := so hf2
                    obtain rfl := so (show some t22 = some y21 from hk42)
                    refine r_iload C dX12_knowsIn_104 rfl ?_
                    refine r_ifeq (tgt := 127) C dX12_knowsIn_106 (by decide) (fun c35 => ?_) (fun c35 => ?_)
                    · rw [if_pos c35] at hf1
                      refine r_subk [0, 1, 2, 3] (lv' := [(0, .ref v0), (1, .int v1), (2, .int v2), (3, .int t6)]) rfl ?_
                      exact J127 h7 t6 hf1
                    · rw [if_neg c35] at hf1
                      refine r_aload_n C dX12_knowsIn_109 rfl ?_
                      obtain ⟨t36, e37, hf1⟩ := ob hf1
                      refine r_getR C fk_X12_63 rfl dX12_knowsIn_110 e37 ?_
                      refine r_iload_n C dX12_knowsIn_113 rfl ?_
                      refine r_bipush (v := 64) C dX12_knowsIn_114 (by decide) ?_
                      obtain ⟨u39, e38, hf1⟩ := ob hf1
                      refine r_idiv C dX12_knowsIn_116 (nz_k e38) ?_
                      refine r_dup2 C dX12_knowsIn_117 rfl rfl ?_
                      obtain ⟨t40, e41, hf1⟩ := ob hf1
                      refine r_ldJ C dX12_knowsIn_118 e41 ?_
                      refine r_lconst (v := 1) C dX12_knowsIn_119 (by decide) ?_
                      refine r_iload_n C dX12_knowsIn_120 rfl ?_
                      refine r_bipush (v := 64) C dX12_knowsIn_121 (by decide) ?_
                      obtain ⟨u43, e42, hf1⟩ := ob hf1
                      refine r_irem C dX12_knowsIn_123 (nz_k e42) ?_
                      refine r_lshl C dX12_knowsIn_124 ?_
                      refine r_lor C dX12_knowsIn_125 ?_
                      obtain ⟨h44, e45, hf1⟩ := ob hf1
                      refine r_stJ C dX12_knowsIn_126 e45 ?_
                      refine r_subk [0, 1, 2, 3] (lv' := [(0, .ref v0), (1, .int v1), (2, .int v2), (3, .int t6)]) rfl ?_
                      exact J127 h44 t6 hf1
                  · rw [if_neg c34] at hf2
                    refine r_iload C dX12_knowsIn_53 rfl ?_
                    refine r_ifeq (tgt := 95) C dX12_knowsIn_55 (by decide) (fun c46 => ?_) (fun c46 => ?_)
                    · rw [if_pos c46] at hf2
                      refine r_subk [0, 1, 2, 3, 5] (lv' := [(0, .ref v0), (1, .int v1), (2, .int v2), (3, .int t6), (5, .int t23)]) rfl ?_
                      exact J95 t23 hf2
                    · rw [if_neg c46] at hf2
                      refine r_aload_n C dX12_knowsIn_58 rfl ?_
                      refine r_iload_n C dX12_knowsIn_59 rfl ?_
                      refine r_iconst (v := 4) C dX12_knowsIn_60 (by decide) ?_
                      obtain ⟨u48, e47, hf2⟩ := ob hf2
                      obtain ⟨t49, e50, hf2⟩ := ob hf2
                      refine r_cV (ci := 12) (rest := []) (st2 := [.int t49]) C (s_X12_ofWitness e50) mk_X12_ofWitness rfl (ck_k e47) (by decide) im_X12_ofWitness sl_X12_ofWitness lk_X12_343 rfl rfl rfl dX12_knowsIn_61 (Nat.le_of_ble_eq_true rfl) ⟨Nat.le_of_ble_eq_true rfl, Nat.le_of_ble_eq_true rfl⟩ ⟨Nat.le_of_ble_eq_true rfl, Nat.le_of_ble_eq_true rfl⟩ ?_
                      refine r_iload C dX12_knowsIn_64 rfl ?_
                      refine r_ishr C dX12_knowsIn_66 ?_
                      refine r_iconst (v := 1) C dX12_knowsIn_67 (by decide) ?_
                      refine r_iand C dX12_knowsIn_68 ?_
                      refine r_ifeq (tgt := 91) C dX12_knowsIn_69 (by decide) (fun c51 => ?_) (fun c51 => ?_)
                      · rw [if_pos c51] at hf2
                        refine r_subk [0, 1, 2, 3, 5] (lv' := [(0, .ref v0), (1, .int v1), (2, .int v2), (3, .int t6), (5, .int t23)]) rfl ?_
                        exact J91 t23 hf2
                      · rw [if_neg c51] at hf2
                        refine r_aload_n C dX12_knowsIn_72 rfl ?_
                        refine r_iconst (v := 0) C dX12_knowsIn_73 (by decide) ?_
                        refine r_iload_n C dX12_knowsIn_74 rfl ?_
                        refine r_iload C dX12_knowsIn_75 rfl ?_
                        obtain ⟨u53, e52, hf2⟩ := ob hf2
                        obtain ⟨t54, e55, hf2⟩ := ob hf2
                        refine r_cV (ci := 12) (rest := []) (st2 := [.int t54]) C (s_X12_valueIn e55) mk_X12_valueIn rfl (ck_k e52) (by decide) im_X12_valueIn sl_X12_valueIn lk_X12_234 rfl rfl rfl dX12_knowsIn_77 (Nat.le_of_ble_eq_true rfl) ⟨Nat.le_of_ble_eq_true rfl, Nat.le_of_ble_eq_true rfl⟩ ⟨Nat.le_of_ble_eq_true rfl, Nat.le_of_ble_eq_true rfl⟩ ?_
                        refine r_aload_n C dX12_knowsIn_80 rfl ?_
                        refine r_iconst (v := 0) C dX12_knowsIn_81 (by decide) ?_
                        refine r_iload_n C dX12_knowsIn_82 rfl ?_
                        refine r_iload C dX12_knowsIn_83 rfl ?_
                        obtain ⟨u57, e56, hf2⟩ := ob hf2
                        obtain ⟨t58, e59, hf2⟩ := ob hf2
                        refine r_cV (ci := 12) (rest := [.int t54]) (st2 := [.int t58, .int t54]) C (s_X12_valueIn e59) mk_X12_valueIn rfl (ck_k e56) (by decide) im_X12_valueIn sl_X12_valueIn lk_X12_234 rfl rfl rfl dX12_knowsIn_85 (Nat.le_of_ble_eq_true rfl) ⟨Nat.le_of_ble_eq_true rfl, Nat.le_of_ble_eq_true rfl⟩ ⟨Nat.le_of_ble_eq_true rfl, Nat.le_of_ble_eq_true rfl⟩ ?_
                        refine r_icmp_ne (tgt := 95) C dX12_knowsIn_88 (by decide) (fun c60 => ?_) (fun c60 => ?_)
                        · rw [if_neg c60] at hf2
                          refine r_subk [0, 1, 2, 3, 5] (lv' := [(0, .ref v0), (1, .int v1), (2, .int v2), (3, .int t6), (5, .int t23)]) rfl ?_
                          exact J95 t23 hf2
                        · rw [if_pos c60] at hf2
                          refine r_subk [0, 1, 2, 3, 5] (lv' := [(0, .ref v0), (1, .int v1), (2, .int v2), (3, .int t6), (5, .int t23)]) rfl ?_
                          exact J91 t23 hf2
              refine r_subk [2, 3, 4, 5, 1, 0] (lv' := [(0, .ref v0), (1, .int v1), (2, .int v2), (3, .int t6), (4, .int t19), (5, .int (0 : Int32))]) rfl ?_
              exact L42 wN t19 (0 : Int32) hl42
        refine r_subk [1, 2, 3, 0] (lv' := [(0, .ref v0), (1, .int v1), (2, .int v2), (3, .int (0 : Int32))]) rfl ?_
        exact L22 wN (0 : Int32) h3 hl22
      · rw [if_neg c4] at hf1
        refine r_aload_n C dX12_knowsIn_7 rfl ?_
        obtain ⟨t61, e62, hf1⟩ := ob hf1
        refine r_getR C fk_X12_63 rfl dX12_knowsIn_8 e62 ?_
        refine r_iload_n C dX12_knowsIn_11 rfl ?_
        refine r_lconst (v := 0) C dX12_knowsIn_12 (by decide) ?_
        obtain ⟨h63, e64, hf1⟩ := ob hf1
        refine r_stJ C dX12_knowsIn_13 e64 ?_
        obtain ⟨t65, e66, hf1⟩ := ob hf1
        refine r_iinc (lv' := [(3, .int t65), (0, .ref v0), (1, .int v1), (2, .int v2)]) C dX12_knowsIn_14 rfl e66 (by decide) rfl ?_
        refine r_goto (tgt := 2) C dX12_knowsIn_17 (by decide) ?_
        obtain rfl := so hf1
        refine r_subk [1, 2, 3, 0] (lv' := [(0, .ref v0), (1, .int v1), (2, .int v2), (3, .int t65)]) rfl ?_
        exact ih2 t65 h63 hk2
  refine r_subk [1, 2, 3, 0] (lv' := [(0, .ref v0), (1, .int v1), (2, .int v2), (3, .int (0 : Int32))]) rfl ?_
  exact L2 wN (0 : Int32) h hl2
