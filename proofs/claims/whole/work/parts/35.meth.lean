def f_X12_aNever (h : aH) (v0 : Nat) : Option (Int32 × aH) := (gR h 12 v0 0).bind fun t1 => (lI h t1 (1603 : Int32)).bind fun t2 => if t2 ≤ 0 then (ck h 12 v0).bind fun _ => (f_X12_ahead h v0).bind fun h3 => (gR h3 12 v0 0).bind fun t4 => (lI h3 t4 (1601 : Int32)).bind fun t5 => (ck h3 12 v0).bind fun _ => bd2 (f_X12_oldName h3 v0 (176 : Int32) (4 : Int32) t5) fun t6 h7 => if t6 = 0 then some ((0 : Int32), h7) else (gI h7 12 v0 21).bind fun t8 => (ck h7 12 v0).bind fun _ => (f_X12_ahead h7 v0).bind fun h9 => (gR h9 12 v0 0).bind fun t10 => (lI h9 t10 (1601 : Int32)).bind fun t11 => (ck h9 12 v0).bind fun _ => bd2 (f_X12_oldName h9 v0 (176 : Int32) (4 : Int32) t11) fun t12 h13 => if t12 = 0 then some ((0 : Int32), h13) else (gR h13 12 v0 0).bind fun t14 => (lI h13 t14 ((1608 : Int32) + t8)).bind fun t15 => (gR h13 12 v0 0).bind fun t16 => (gI h13 12 v0 21).bind fun t17 => (lI h13 t16 ((1608 : Int32) + t17)).bind fun t18 => if t15 = t18 then (ck h13 12 v0).bind fun _ => bd2 (f_X12_fails h13 v0 (5 : Int32)) fun t28 h29 => (rZ t28).bind fun t30 => some (t30, h29) else (gR h13 12 v0 22).bind fun t19 => (lI h13 t19 t8).bind fun t20 => (gI h13 12 v0 21).bind fun t21 => (sI h13 t19 t8 (t20 ||| ((1 : Int32) <<< (t21 &&& 31)))).bind fun h22 => (gR h22 12 v0 22).bind fun t23 => (gI h22 12 v0 21).bind fun t24 => (lI h22 t23 t24).bind fun t25 => (sI h22 t23 t24 (t25 ||| ((1 : Int32) <<< (t8 &&& 31)))).bind fun h26 => (ck h26 12 v0).bind fun _ => (f_X12_ahead h26 v0).bind fun h27 => some ((1 : Int32), h27) else (ck h 12 v0).bind fun _ => bd2 (f_X12_fails h v0 (7 : Int32)) fun t31 h32 => (rZ t31).bind fun t33 => some (t33, h32)
theorem s_X12_aNever {h : aH} {v0 : Nat} {out : Int32 × aH} (hf0 : f_X12_aNever h v0 = some out) : EV 11 yX12_aNever cX12_aNever 2 (some .boolean) h [.ref v0] (some (.int out.1)) out.2 0 0 := by
  refine EV.of (own := RX12) (lv0 := [(0, .ref v0)]) (by decide +kernel) rfl rfl (Nat.le_of_ble_eq_true rfl) ?_
  intro p l e s m args below meth c D cA B Hb C hin
  unfold f_X12_aNever at hf0
  refine r_aload_n C dX12_aNever_0 rfl ?_
  obtain ⟨t1, e2, hf0⟩ := ob hf0
  refine r_getR C fk_X12_7 rfl dX12_aNever_1 e2 ?_
  refine r_sipush (v := 1603) C dX12_aNever_4 (by decide) ?_
  obtain ⟨t3, e4, hf0⟩ := ob hf0
  refine r_ldI C dX12_aNever_7 e4 ?_
  refine r_ifle (tgt := 18) C dX12_aNever_8 (by decide) (fun c5 => ?_) (fun c5 => ?_)
  · rw [if_pos c5] at hf0
    refine r_aload_n C dX12_aNever_18 rfl ?_
    obtain ⟨u7, e6, hf0⟩ := ob hf0
    obtain ⟨h8, e9, hf0⟩ := ob hf0
    refine r_cV (ci := 12) (rest := []) (st2 := []) C (s_X12_ahead e9) mk_X12_ahead rfl (ck_k e6) (by decide) im_X12_ahead sl_X12_ahead lk_X12_180 rfl rfl rfl dX12_aNever_19 (Nat.le_of_ble_eq_true rfl) ⟨Nat.le_of_ble_eq_true rfl, Nat.le_of_ble_eq_true rfl⟩ ⟨Nat.le_of_ble_eq_true rfl, Nat.le_of_ble_eq_true rfl⟩ ?_
    refine r_aload_n C dX12_aNever_22 rfl ?_
    refine r_sipush (v := 176) C dX12_aNever_23 (by decide) ?_
    refine r_iconst (v := 4) C dX12_aNever_26 (by decide) ?_
    refine r_aload_n C dX12_aNever_27 rfl ?_
    obtain ⟨t10, e11, hf0⟩ := ob hf0
    refine r_getR C fk_X12_7 rfl dX12_aNever_28 e11 ?_
    refine r_sipush (v := 1601) C dX12_aNever_31 (by decide) ?_
    obtain ⟨t12, e13, hf0⟩ := ob hf0
    refine r_ldI C dX12_aNever_34 e13 ?_
    obtain ⟨u15, e14, hf0⟩ := ob hf0
    obtain ⟨t16, h17, e18, hf0⟩ := ob2 hf0
    refine r_cV (ci := 12) (rest := []) (st2 := [.int t16]) C (s_X12_oldName e18) mk_X12_oldName rfl (ck_k e14) (by decide) im_X12_oldName sl_X12_oldName lk_X12_231 rfl rfl rfl dX12_aNever_35 (Nat.le_of_ble_eq_true rfl) ⟨Nat.le_of_ble_eq_true rfl, Nat.le_of_ble_eq_true rfl⟩ ⟨Nat.le_of_ble_eq_true rfl, Nat.le_of_ble_eq_true rfl⟩ ?_
    refine r_ifne (tgt := 43) C dX12_aNever_38 (by decide) (fun c19 => ?_) (fun c19 => ?_)
    · rw [if_neg c19] at hf0
      refine r_aload_n C dX12_aNever_43 rfl ?_
      obtain ⟨t20, e21, hf0⟩ := ob hf0
      refine r_getI C fk_X12_216 rfl dX12_aNever_44 e21 ?_
      refine r_istore_n (lv' := [(1, .int t20), (0, .ref v0)]) C dX12_aNever_47 (by decide) rfl rfl ?_
      refine r_aload_n C dX12_aNever_48 rfl ?_
      obtain ⟨u23, e22, hf0⟩ := ob hf0
      obtain ⟨h24, e25, hf0⟩ := ob hf0
      refine r_cV (ci := 12) (rest := []) (st2 := []) C (s_X12_ahead e25) mk_X12_ahead rfl (ck_k e22) (by decide) im_X12_ahead sl_X12_ahead lk_X12_180 rfl rfl rfl dX12_aNever_49 (Nat.le_of_ble_eq_true rfl) ⟨Nat.le_of_ble_eq_true rfl, Nat.le_of_ble_eq_true rfl⟩ ⟨Nat.le_of_ble_eq_true rfl, Nat.le_of_ble_eq_true rfl⟩ ?_
      refine r_aload_n C dX12_aNever_52 rfl ?_
      refine r_sipush (v := 176) C dX12_aNever_53 (by decide) ?_
      refine r_iconst (v := 4) C dX12_aNever_56 (by decide) ?_
      refine r_aload_n C dX12_aNever_57 rfl ?_
      obtain ⟨t26, e27, hf0⟩ := ob hf0
      refine r_getR C fk_X12_7 rfl dX12_aNever_58 e27 ?_
      refine r_sipush (v := 1601) C dX12_aNever_61 (by decide) ?_
      obtain ⟨t28, e29, hf0⟩ := ob hf0
      refine r_ldI C dX12_aNever_64 e29 ?_
      obtain ⟨u31, e30, hf0⟩ := ob hf0
      obtain ⟨t32, h33, e34, hf0⟩ := ob2 hf0
      refine r_cV (ci := 12) (rest := []) (st2 := [.int t32]) C (s_X12_oldName e34) mk_X12_oldName rfl (ck_k e30) (by decide) im_X12_oldName sl_X12_oldName lk_X12_231 rfl rfl rfl dX12_aNever_65 (Nat.le_of_ble_eq_true rfl) ⟨Nat.le_of_ble_eq_true rfl, Nat.le_of_ble_eq_true rfl⟩ ⟨Nat.le_of_ble_eq_true rfl, Nat.le_of_ble_eq_true rfl⟩ ?_
      refine r_ifne (tgt := 73) C dX12_aNever_68 (by decide) (fun c35 => ?_) (fun c35 => ?_)
      · rw [if_neg c35] at hf0
        refine r_aload_n C dX12_aNever_73 rfl ?_
        obtain ⟨t36, e37, hf0⟩ := ob hf0
        refine r_getR C fk_X12_7 rfl dX12_aNever_74 e37 ?_
        refine r_sipush (v := 1608) C dX12_aNever_77 (by decide) ?_
        refine r_iload_n C dX12_aNever_80 rfl ?_
        refine r_iadd C dX12_aNever_81 ?_
        obtain ⟨t38, e39, hf0⟩ := ob hf0
        refine r_ldI C dX12_aNever_82 e39 ?_
        refine r_aload_n C dX12_aNever_83 rfl ?_
        obtain ⟨t40, e41, hf0⟩ := ob hf0
        refine r_getR C fk_X12_7 rfl dX12_aNever_84 e41 ?_
        refine r_sipush (v := 1608) C dX12_aNever_87 (by decide) ?_
        refine r_aload_n C dX12_aNever_90 rfl ?_
        obtain ⟨t42, e43, hf0⟩ := ob hf0
        refine r_getI C fk_X12_216 rfl dX12_aNever_91 e43 ?_
        refine r_iadd C dX12_aNever_94 ?_
        obtain ⟨t44, e45, hf0⟩ := ob hf0
        refine r_ldI C dX12_aNever_95 e45 ?_
        refine r_icmp_ne (tgt := 105) C dX12_aNever_96 (by decide) (fun c46 => ?_) (fun c46 => ?_)
        · rw [if_neg c46] at hf0
          refine r_aload_n C dX12_aNever_105 rfl ?_
          obtain ⟨t47, e48, hf0⟩ := ob hf0
          refine r_getR C fk_X12_47 rfl dX12_aNever_106 e48 ?_
          refine r_iload_n C dX12_aNever_109 rfl ?_
          refine r_dup2 C dX12_aNever_110 rfl rfl ?_
          obtain ⟨t49, e50, hf0⟩ := ob hf0
          refine r_ldI C dX12_aNever_111 e50 ?_
          refine r_iconst (v := 1) C dX12_aNever_112 (by decide) ?_
          refine r_aload_n C dX12_aNever_113 rfl ?_
          obtain ⟨t51, e52, hf0⟩ := ob hf0
          refine r_getI C fk_X12_216 rfl dX12_aNever_114 e52 ?_
          refine r_ishl C dX12_aNever_117 ?_
          refine r_ior C dX12_aNever_118 ?_
          obtain ⟨h53, e54, hf0⟩ := ob hf0
          refine r_stI C dX12_aNever_119 e54 ?_
          refine r_aload_n C dX12_aNever_120 rfl ?_
          obtain ⟨t55, e56, hf0⟩ := ob hf0
          refine r_getR C fk_X12_47 rfl dX12_aNever_121 e56 ?_
          refine r_aload_n C dX12_aNever_124 rfl ?_
          obtain ⟨t57, e58, hf0⟩ := ob hf0
          refine r_getI C fk_X12_216 rfl dX12_aNever_125 e58 ?_
          refine r_dup2 C dX12_aNever_128 rfl rfl ?_
          obtain ⟨t59, e60, hf0⟩ := ob hf0
          refine r_ldI C dX12_aNever_129 e60 ?_
          refine r_iconst (v := 1) C dX12_aNever_130 (by decide) ?_
          refine r_iload_n C dX12_aNever_131 rfl ?_
          refine r_ishl C dX12_aNever_132 ?_
          refine r_ior C dX12_aNever_133 ?_
          obtain ⟨h61, e62, hf0⟩ := ob hf0
          refine r_stI C dX12_aNever_134 e62 ?_
          refine r_aload_n C dX12_aNever_135 rfl ?_
          obtain ⟨u64, e63, hf0⟩ := ob hf0
          obtain ⟨h65, e66, hf0⟩ := ob hf0
          refine r_cV (ci := 12) (rest := []) (st2 := []) C (s_X12_ahead e66) mk_X12_ahead rfl (ck_k e63) (by decide) im_X12_ahead sl_X12_ahead lk_X12_180 rfl rfl rfl dX12_aNever_136 (Nat.le_of_ble_eq_true rfl) ⟨Nat.le_of_ble_eq_true rfl, Nat.le_of_ble_eq_true rfl⟩ ⟨Nat.le_of_ble_eq_true rfl, Nat.le_of_ble_eq_true rfl⟩ ?_
          refine r_iconst (v := 1) C dX12_aNever_139 (by decide) ?_
          obtain rfl := so hf0
          exact r_zret C dX12_aNever_140 (Or.inr rfl)
        · rw [if_pos c46] at hf0
          refine r_aload_n C dX12_aNever_99 rfl ?_
          refine r_iconst (v := 5) C dX12_aNever_100 (by decide) ?_
          obtain ⟨u68, e67, hf0⟩ := ob hf0
          obtain ⟨t69, h70, e71, hf0⟩ := ob2 hf0
          refine r_cV (ci := 12) (rest := []) (st2 := [.int t69]) C (s_X12_fails e71) mk_X12_fails rfl (ck_k e67) (by decide) im_X12_fails sl_X12_fails lk_X12_186 rfl rfl rfl dX12_aNever_101 (Nat.le_of_ble_eq_true rfl) ⟨Nat.le_of_ble_eq_true rfl, Nat.le_of_ble_eq_true rfl⟩ ⟨Nat.le_of_ble_eq_true rfl, Nat.le_of_ble_eq_true rfl⟩ ?_
          obtain ⟨t72, e73, hf0⟩ := ob hf0
          obtain ⟨rfl, e73z⟩ := rZ_k e73
          obtain rfl := so hf0
          exact r_zret C dX12_aNever_104 e73z
      · rw [if_pos c35] at hf0
        refine r_iconst (v := 0) C dX12_aNever_71 (by decide) ?_
        obtain rfl := so hf0
        exact r_zret C dX12_aNever_72 (Or.inl rfl)
    · rw [if_pos c19] at hf0
      refine r_iconst (v := 0) C dX12_aNever_41 (by decide) ?_
      obtain rfl := so hf0
      exact r_zret C dX12_aNever_42 (Or.inl rfl)
  · rw [if_neg c5] at hf0
    refine r_aload_n C dX12_aNever_11 rfl ?_
    refine r_bipush (v := 7) C dX12_aNever_12 (by decide) ?_
    obtain ⟨u75, e74, hf0⟩ := ob hf0
    obtain ⟨t76, h77, e78, hf0⟩ := ob2 hf0
    refine r_cV (ci := 12) (rest := []) (st2 := [.int t76]) C (s_X12_fails e78) mk_X12_fails rfl (ck_k e74) (by decide) im_X12_fails sl_X12_fails lk_X12_186 rfl rfl rfl dX12_aNever_14 (Nat.le_of_ble_eq_true rfl) ⟨Nat.le_of_ble_eq_true rfl, Nat.le_of_ble_eq_true rfl⟩ ⟨Nat.le_of_ble_eq_true rfl, Nat.le_of_ble_eq_true rfl⟩ ?_
    obtain ⟨t79, e80, hf0⟩ := ob hf0
    obtain ⟨rfl, e80z⟩ := rZ_k e80
    obtain rfl := so hf0
    exact r_zret C dX12_aNever_17 e80z
def f_X12_finds_b2 (v0 : Nat) (v1 : Int32) (h : aH) : Option ((Int32 × aH) ⊕ (aH)) := if (4 : Int32) ≤ v1 then some (.inr h) else (gR h 12 v0 1).bind fun t1 => (sJ h t1 ((208 : Int32) + v1) (0 : Int64)).bind fun h2 => (some (v1 + (1 : Int32))).bind fun t3 => some (.inl (t3, h2))
def f_X12_finds_l2 (v0 : Nat) (v1 : Int32) (h : aH) : Option (aH) := whileL wN (fun q : Int32 × aH => f_X12_finds_b2 v0 q.1 q.2) (v1, h)
def f_X12_finds_j141 (h : aH) (v0 : Nat) (v1 : Int32) : Option ((Int32 × aH) ⊕ (aH)) := (some (v1 + (1 : Int32))).bind fun t5 => some (.inl (t5, h))
def f_X12_finds_j102 (h : aH) (v0 : Nat) (v1 : Int32) (v3 : Int32) (v4 : Int32) (s0 : Int32) : Option ((Int32 × Int32) ⊕ (Int32)) := (some (v4 + (1 : Int32))).bind fun t10 => some (.inl (s0, t10))
def f_X12_finds_j101 (h : aH) (v0 : Nat) (v1 : Int32) (v3 : Int32) (v4 : Int32) : Option ((Int32 × Int32) ⊕ (Int32)) := f_X12_finds_j102 h v0 v1 v3 v4 (0 : Int32)
def f_X12_finds_b57 (h : aH) (v0 : Nat) (v1 : Int32) (v3 : Int32) (v2 : Int32) (v4 : Int32) : Option ((Int32 × Int32) ⊕ (Int32)) := if v3 ≤ v4 then some (.inr v2) else if v2 = 0 then f_X12_finds_j101 h v0 v1 v3 v4 else (gR h 12 v0 22).bind fun t11 => (ck h 12 v0).bind fun _ => (f_X12_valueIn h v0 (1600 : Int32) v1 v3).bind fun t12 => (lI h t11 t12).bind fun t13 => (ck h 12 v0).bind fun _ => (f_X12_valueIn h v0 (1600 : Int32) v1 v4).bind fun t14 => if ((t13 >>> (t14 &&& 31)) &&& (1 : Int32)) = 0 then f_X12_finds_j102 h v0 v1 v3 v4 (1 : Int32) else f_X12_finds_j101 h v0 v1 v3 v4
def f_X12_finds_l57 (h : aH) (v0 : Nat) (v1 : Int32) (v3 : Int32) (v2 : Int32) (v4 : Int32) : Option (Int32) := whileL wN (fun q : Int32 × Int32 => f_X12_finds_b57 h v0 v1 v3 q.1 q.2) (v2, v4)
def f_X12_finds_b42 (h : aH) (v0 : Nat) (v1 : Int32) (v2 : Int32) (v3 : Int32) : Option ((Int32 × Int32) ⊕ (Int32)) := (gR h 12 v0 0).bind fun t8 => (lI h t8 (1600 : Int32)).bind fun t9 => if t9 ≤ v3 then some (.inr v2) else (f_X12_finds_l57 h v0 v1 v3 v2 (0 : Int32)).bind fun t15 => (some (v3 + (1 : Int32))).bind fun t16 => some (.inl (t15, t16))
def f_X12_finds_l42 (h : aH) (v0 : Nat) (v1 : Int32) (v2 : Int32) (v3 : Int32) : Option (Int32) := whileL wN (fun q : Int32 × Int32 => f_X12_finds_b42 h v0 v1 q.1 q.2) (v2, v3)
def f_X12_finds_b26 (v0 : Nat) (v1 : Int32) (h : aH) : Option ((Int32 × aH) ⊕ (aH)) := (gR h 12 v0 0).bind fun t6 => (lI h t6 (1602 : Int32)).bind fun t7 => if t7 ≤ v1 then some (.inr h) else (f_X12_finds_l42 h v0 v1 (1 : Int32) (0 : Int32)).bind fun t17 => if t17 = 0 then f_X12_finds_j141 h v0 v1 else (gR h 12 v0 1).bind fun t18 => (nz (64 : Int32)).bind fun _ => (lJ h t18 ((208 : Int32) + (v1 / (64 : Int32)))).bind fun t19 => (nz (64 : Int32)).bind fun _ => (sJ h t18 ((208 : Int32) + (v1 / (64 : Int32))) (t19 ||| ((1 : Int64) <<< (Int32.toInt64 (v1 - v1 / (64 : Int32) * (64 : Int32)) &&& 63)))).bind fun h20 => f_X12_finds_j141 h20 v0 v1
def f_X12_finds_l26 (v0 : Nat) (v1 : Int32) (h : aH) : Option (aH) := whileL wN (fun q : Int32 × aH => f_X12_finds_b26 v0 q.1 q.2) (v1, h)
def f_X12_finds (h : aH) (v0 : Nat) : Option (aH) := (f_X12_finds_l2 v0 (0 : Int32) h).bind fun h4 => (f_X12_finds_l26 v0 (0 : Int32) h4).bind fun h21 => some h21
theorem s_X12_finds {h : aH} {v0 : Nat} {out : aH} (hf0 : f_X12_finds h v0 = some out) : EV 1 yX12_finds cX12_finds 5 none h [.ref v0] none out 0 0 := by
  refine EV.of (own := RX12) (lv0 := [(0, .ref v0)]) (by decide +kernel) rfl rfl (Nat.le_of_ble_eq_true rfl) ?_
  intro p l e s m args below meth c D cA B Hb C hin
  unfold f_X12_finds at hf0
  refine r_iconst (v := 0) C dX12_finds_0 (by decide) ?_
  refine r_istore_n (lv' := [(1, .int (0 : Int32)), (0, .ref v0)]) C dX12_finds_1 (by decide) rfl rfl ?_
  obtain ⟨y1, hl2, hf0⟩ := ob hf0
  have L2 : ∀ (n : Nat) (t2 : Int32) (h3 : aH), whileL n (fun q : Int32 × aH => f_X12_finds_b2 v0 q.1 q.2) (t2, h3) = some y1 → gW p l e (rmO 1 0 0) s m args below meth c (MQ below (eQ D cA B Hb out none) args s 0 0 (fun q => B ≤ q)) D cA B Hb 5 h3 2 [(0, .ref v0), (1, .int t2)] [] 0 0 := by
    intro n
    induction n with
    | zero => intro t2 h3 hz; cases hz
    | succ n ih2 =>
      intro t2 h3 hz
      obtain ⟨x2, hf1, hk2⟩ := wl hz
      replace hf1 : f_X12_finds_b2 v0 t2 h3 = some x2 := hf1
      unfold f_X12_finds_b2 at hf1
      refine r_iload_n C dX12_finds_2 rfl ?_
      refine r_iconst (v := 4) C dX12_finds_3 (by decide) ?_
      refine r_icmp_ge (tgt := 24) C dX12_finds_4 (by decide) (fun c4 => ?_) (fun c4 => ?_)
      · rw [if_pos c4] at hf1
        obtain rfl := so hf1
        obtain rfl := so (show some h3 = some y1 from hk2)
        refine r_iconst (v := 0) C dX12_finds_24 (by decide) ?_
        refine r_istore_n (lv' := [(1, .int (0 : Int32)), (0, .ref v0)]) C dX12_finds_25 (by decide) rfl rfl ?_
        obtain ⟨y5, hl26, hf0⟩ := ob hf0
        have L26 : ∀ (n : Nat) (t6 : Int32) (h7 : aH), whileL n (fun q : Int32 × aH => f_X12_finds_b26 v0 q.1 q.2) (t6, h7) = some y5 → gW p l e (rmO 1 0 0) s m args below meth c (MQ below (eQ D cA B Hb out none) args s 0 0 (fun q => B ≤ q)) D cA B Hb 5 h7 26 [(0, .ref v0), (1, .int t6)] [] 0 0 := by
          intro n
          induction n with
          | zero => intro t6 h7 hz; cases hz
          | succ n ih26 =>
            intro t6 h7 hz
            obtain ⟨x26, hf1, hk26⟩ := wl hz
            replace hf1 : f_X12_finds_b26 v0 t6 h7 = some x26 := hf1
            unfold f_X12_finds_b26 at hf1
            have J141 : ∀ (h8 : aH) (t9 : Int32), f_X12_finds_j141 h8 v0 t9 = some x26 → gW p l e (rmO 1 0 0) s m args below meth c (MQ below (eQ D cA B Hb out none) args s 0 0 (fun q => B ≤ q)) D cA B Hb 5 h8 141 [(0, .ref v0), (1, .int t9)] [] 0 0 := by
              intro h8 t9 hf1
              unfold f_X12_finds_j141 at hf1
              obtain ⟨t10, e11, hf1⟩ := ob hf1
              refine r_iinc (lv' := [(1, .int t10), (0, .ref v0)]) C dX12_finds_141 rfl e11 (by decide) rfl ?_
              refine r_goto (tgt := 26) C dX12_finds_144 (by decide) ?_
              obtain rfl := so hf1
              refine r_subk [1, 0] (lv' := [(0, .ref v0), (1, .int t10)]) rfl ?_
              exact ih26 t10 h8 hk26
            refine r_iload_n C dX12_finds_26 rfl ?_
            refine r_aload_n C dX12_finds_27 rfl ?_
            obtain ⟨t12, e13, hf1⟩ := ob hf1
            refine r_getR C fk_X12_7 rfl dX12_finds_28 e13 ?_
            refine r_sipush (v := 1602) C dX12_finds_31 (by decide) ?_
            obtain ⟨t14, e15, hf1⟩ := ob hf1
            refine r_ldI C dX12_finds_34 e15 ?_
            refine r_icmp_ge (tgt := 147) C dX12_finds_35 (by decide) (fun c16 => ?_) (fun c16 => ?_)
            · rw [if_pos c16] at hf1
              obtain rfl := so hf1
              obtain rfl := so (show some h7 = some y5 from hk26)
              obtain rfl := so hf0
              exact r_vret C dX12_finds_147
            · rw [if_neg c16] at hf1
              refine r_iconst (v := 1) C dX12_finds_38 (by decide) ?_
              refine r_istore_n (lv' := [(2, .int (1 : Int32)), (0, .ref v0), (1, .int t6)]) C dX12_finds_39 (by decide) rfl rfl ?_
              refine r_iconst (v := 0) C dX12_finds_40 (by decide) ?_
              refine r_istore_n (lv' := [(3, .int (0 : Int32)), (2, .int (1 : Int32)), (0, .ref v0), (1, .int t6)]) C dX12_finds_41 (by decide) rfl rfl ?_
              obtain ⟨y17, hl42, hf1⟩ := ob hf1
              have L42 : ∀ (n : Nat) (t18 : Int32) (t19 : Int32), whileL n (fun q : Int32 × Int32 => f_X12_finds_b42 h7 v0 t6 q.1 q.2) (t18, t19) = some y17 → gW p l e (rmO 1 0 0) s m args below meth c (MQ below (eQ D cA B Hb out none) args s 0 0 (fun q => B ≤ q)) D cA B Hb 5 h7 42 [(0, .ref v0), (1, .int t6), (2, .int t18), (3, .int t19)] [] 0 0 := by
                intro n
                induction n with
                | zero => intro t18 t19 hz; cases hz
                | succ n ih42 =>
                  intro t18 t19 hz
                  obtain ⟨x42, hf2, hk42⟩ := wl hz
                  replace hf2 : f_X12_finds_b42 h7 v0 t6 t18 t19 = some x42 := hf2
                  unfold f_X12_finds_b42 at hf2
                  refine r_iload_n C dX12_finds_42 rfl ?_
                  refine r_aload_n C dX12_finds_43 rfl ?_
                  obtain ⟨t20, e21, hf2⟩ := ob hf2
                  refine r_getR C fk_X12_7 rfl dX12_finds_44 e21 ?_
                  refine r_sipush (v := 1600) C dX12_finds_47 (by decide) ?_
                  obtain ⟨t22, e23, hf2⟩ := ob hf2
                  refine r_ldI C dX12_finds_50 e23 ?_
                  refine r_icmp_ge (tgt := 115) C dX12_finds_51 (by decide) (fun c24 => ?_) (fun c24 => ?_)
                  · rw [if_pos c24] at hf2
                    obtain rfl := so hf2
                    obtain rfl := so (show some t18 = some y17 from hk42)
                    refine r_iload_n C dX12_finds_115 rfl ?_
                    refine r_ifeq (tgt := 141) C dX12_finds_116 (by decide) (fun c25 => ?_) (fun c25 => ?_)
                    · rw [if_pos c25] at hf1
                      refine r_subk [0, 1] (lv' := [(0, .ref v0), (1, .int t6)]) rfl ?_
                      exact J141 h7 t6 hf1
                    · rw [if_neg c25] at hf1
                      refine r_aload_n C dX12_finds_119 rfl ?_
                      obtain ⟨t26, e27, hf1⟩ := ob hf1
                      refine r_getR C fk_X12_13 rfl dX12_finds_120 e27 ?_
                      refine r_sipush (v := 208) C dX12_finds_123 (by decide) ?_
                      refine r_iload_n C dX12_finds_126 rfl ?_
                      refine r_bipush (v := 64) C dX12_finds_127 (by decide) ?_
                      obtain ⟨u29, e28, hf1⟩ := ob hf1
                      refine r_idiv C dX12_finds_129 (nz_k e28) ?_
                      refine r_iadd C dX12_finds_130 ?_
                      refine r_dup2 C dX12_finds_131 rfl rfl ?_
                      obtain ⟨t30, e31, hf1⟩ := ob hf1
                      refine r_ldJ C dX12_finds_132 e31 ?_
                      refine r_lconst (v := 1) C dX12_finds_133 (by decide) ?_
                      refine r_iload_n C dX12_finds_134 rfl ?_
                      refine r_bipush (v := 64) C dX12_finds_135 (by decide) ?_
                      obtain ⟨u33, e32, hf1⟩ := ob hf1
                      refine r_irem C dX12_finds_137 (nz_k e32) ?_
                      refine r_lshl C dX12_finds_138 ?_
                      refine r_lor C dX12_finds_139 ?_
                      obtain ⟨h34, e35, hf1⟩ := ob hf1
                      refine r_stJ C dX12_finds_140 e35 ?_
                      refine r_subk [0, 1] (lv' := [(0, .ref v0), (1, .int t6)]) rfl ?_
                      exact J141 h34 t6 hf1
                  · rw [if_neg c24] at hf2
                    refine r_iconst (v := 0) C dX12_finds_54 (by decide) ?_
                    refine r_istore (lv' := [(4, .int (0 : Int32)), (0, .ref v0), (1, .int t6), (2, .int t18), (3, .int t19)]) C dX12_finds_55 (by decide) rfl rfl ?_
                    obtain ⟨y36, hl57, hf2⟩ := ob hf2
                    have L57 : ∀ (n : Nat) (t37 : Int32) (t38 : Int32), whileL n (fun q : Int32 × Int32 => f_X12_finds_b57 h7 v0 t6 t19 q.1 q.2) (t37, t38) = some y36 → gW p l e (rmO 1 0 0) s m args below meth c (MQ below (eQ D cA B Hb out none) args s 0 0 (fun q => B ≤ q)) D cA B Hb 5 h7 57 [(0, .ref v0), (1, .int t6), (2, .int t37), (3, .int t19), (4, .int t38)] [] 0 0 := by
                      intro n
                      induction n with
                      | zero => intro t37 t38 hz; cases hz
                      | succ n ih57 =>
                        intro t37 t38 hz
                        obtain ⟨x57, hf3, hk57⟩ := wl hz
                        replace hf3 : f_X12_finds_b57 h7 v0 t6 t19 t37 t38 = some x57 := hf3
                        unfold f_X12_finds_b57 at hf3
                        have J102 : ∀ (t39 : Int32) (t40 : Int32), f_X12_finds_j102 h7 v0 t6 t19 t39 t40 = some x57 → gW p l e (rmO 1 0 0) s m args below meth c (MQ below (eQ D cA B Hb out none) args s 0 0 (fun q => B ≤ q)) D cA B Hb 5 h7 102 [(0, .ref v0), (1, .int t6), (3, .int t19), (4, .int t39)] [.int t40] 0 0 := by
                          intro t39 t40 hf3
                          unfold f_X12_finds_j102 at hf3
                          refine r_istore_n (lv' := [(2, .int t40), (0, .ref v0), (1, .int t6), (3, .int t19), (4, .int t39)]) C dX12_finds_102 (by decide) rfl rfl ?_
                          obtain ⟨t41, e42, hf3⟩ := ob hf3
                          refine r_iinc (lv' := [(4, .int t41), (2, .int t40), (0, .ref v0), (1, .int t6), (3, .int t19)]) C dX12_finds_103 rfl e42 (by decide) rfl ?_
                          refine r_goto (tgt := 57) C dX12_finds_106 (by decide) ?_
                          obtain rfl := so hf3
                          refine r_subk [2, 3, 1, 4, 0] (lv' := [(0, .ref v0), (1, .int t6), (2, .int t40), (3, .int t19), (4, .int t41)]) rfl ?_
                          exact ih57 t40 t41 hk57
                        have J101 : ∀ (t43 : Int32), f_X12_finds_j101 h7 v0 t6 t19 t43 = some x57 → gW p l e (rmO 1 0 0) s m args below meth c (MQ below (eQ D cA B Hb out none) args s 0 0 (fun q => B ≤ q)) D cA B Hb 5 h7 101 [(0, .ref v0), (1, .int t6), (3, .int t19), (4, .int t43)] [] 0 0 := by
                          intro t43 hf3
                          unfold f_X12_finds_j101 at hf3
                          refine r_iconst (v := 0) C dX12_finds_101 (by decide) ?_
                          exact J102 t43 (0 : Int32) hf3
                        refine r_iload C dX12_finds_57 rfl ?_
                        refine r_iload_n C dX12_finds_59 rfl ?_
                        refine r_icmp_ge (tgt := 109) C dX12_finds_60 (by decide) (fun c44 => ?_) (fun c44 => ?_)
                        · rw [if_pos c44] at hf3
                          obtain rfl := so hf3
                          obtain rfl := so (show some t37 = some y36 from hk57)
                          obtain ⟨t45, e46, hf2⟩ := ob hf2
                          refine r_iinc (lv' := [(3, .int t45), (0, .ref v0), (1, .int t6), (2, .int t37), (4, .int t38)]) C dX12_finds_109 rfl e46 (by decide) rfl ?_
                          refine r_goto (tgt := 42) C dX12_finds_112 (by decide) ?_
                          obtain rfl := so hf2
                          refine r_subk [1, 2, 3, 0] (lv' := [(0, .ref v0), (1, .int t6), (2, .int t37), (3, .int t45)]) rfl ?_
                          exact ih42 t37 t45 hk42
                        · rw [if_neg c44] at hf3
                          refine r_iload_n C dX12_finds_63 rfl ?_
                          refine r_ifeq (tgt := 101) C dX12_finds_64 (by decide) (fun c47 => ?_) (fun c47 => ?_)
                          · rw [if_pos c47] at hf3
                            refine r_subk [0, 1, 3, 4] (lv' := [(0, .ref v0), (1, .int t6), (3, .int t19), (4, .int t38)]) rfl ?_
                            exact J101 t38 hf3
                          · rw [if_neg c47] at hf3
                            refine r_aload_n C dX12_finds_67 rfl ?_
                            obtain ⟨t48, e49, hf3⟩ := ob hf3
                            refine r_getR C fk_X12_47 rfl dX12_finds_68 e49 ?_
                            refine r_aload_n C dX12_finds_71 rfl ?_
                            refine r_sipush (v := 1600) C dX12_finds_72 (by decide) ?_
                            refine r_iload_n C dX12_finds_75 rfl ?_
                            refine r_iload_n C dX12_finds_76 rfl ?_
                            obtain ⟨u51, e50, hf3⟩ := ob hf3
                            obtain ⟨t52, e53, hf3⟩ := ob hf3
                            refine r_cV (ci := 12) (rest := [.ref t48]) (st2 := [.int t52, .ref t48]) C (s_X12_valueIn e53) mk_X12_valueIn rfl (ck_k e50) (by decide) im_X12_valueIn sl_X12_valueIn lk_X12_234 rfl rfl rfl dX12_finds_77 (Nat.le_of_ble_eq_true rfl) ⟨Nat.le_of_ble_eq_true rfl, Nat.le_of_ble_eq_true rfl⟩ ⟨Nat.le_of_ble_eq_true rfl, Nat.le_of_ble_eq_true rfl⟩ ?_
                            obtain ⟨t54, e55, hf3⟩ := ob hf3
                            refine r_ldI C dX12_finds_80 e55 ?_
                            refine r_aload_n C dX12_finds_81 rfl ?_
                            refine r_sipush (v := 1600) C dX12_finds_82 (by decide) ?_
                            refine r_iload_n C dX12_finds_85 rfl ?_
                            refine r_iload C dX12_finds_86 rfl ?_
                            obtain ⟨u57, e56, hf3⟩ := ob hf3
                            obtain ⟨t58, e59, hf3⟩ := ob hf3
                            refine r_cV (ci := 12) (rest := [.int t54]) (st2 := [.int t58, .int t54]) C (s_X12_valueIn e59) mk_X12_valueIn rfl (ck_k e56) (by decide) im_X12_valueIn sl_X12_valueIn lk_X12_234 rfl rfl rfl dX12_finds_88 (Nat.le_of_ble_eq_true rfl) ⟨Nat.le_of_ble_eq_true rfl, Nat.le_of_ble_eq_true rfl⟩ ⟨Nat.le_of_ble_eq_true rfl, Nat.le_of_ble_eq_true rfl⟩ ?_
                            refine r_ishr C dX12_finds_91 ?_
                            refine r_iconst (v := 1) C dX12_finds_92 (by decide) ?_
                            refine r_iand C dX12_finds_93 ?_
                            refine r_ifne (tgt := 101) C dX12_finds_94 (by decide) (fun c60 => ?_) (fun c60 => ?_)
                            · rw [if_neg c60] at hf3
                              refine r_subk [0, 1, 3, 4] (lv' := [(0, .ref v0), (1, .int t6), (3, .int t19), (4, .int t38)]) rfl ?_
                              exact J101 t38 hf3
                            · rw [if_pos c60] at hf3
                              refine r_iconst (v := 1) C dX12_finds_97 (by decide) ?_
                              refine r_goto (tgt := 102) C dX12_finds_98 (by decide) ?_
                              refine r_subk [0, 1, 3, 4] (lv' := [(0, .ref v0), (1, .int t6), (3, .int t19), (4, .int t38)]) rfl ?_
                              exact J102 t38 (1 : Int32) hf3
                    refine r_subk [1, 2, 3, 4, 0] (lv' := [(0, .ref v0), (1, .int t6), (2, .int t18), (3, .int t19), (4, .int (0 : Int32))]) rfl ?_
                    exact L57 wN t18 (0 : Int32) hl57
              refine r_subk [2, 3, 1, 0] (lv' := [(0, .ref v0), (1, .int t6), (2, .int (1 : Int32)), (3, .int (0 : Int32))]) rfl ?_
              exact L42 wN (1 : Int32) (0 : Int32) hl42
        refine r_subk [1, 0] (lv' := [(0, .ref v0), (1, .int (0 : Int32))]) rfl ?_
        exact L26 wN (0 : Int32) h3 hl26
      · rw [if_neg c4] at hf1
        refine r_aload_n C dX12_finds_7 rfl ?_
        obtain ⟨t61, e62, hf1⟩ := ob hf1
        refine r_getR C fk_X12_13 rfl dX12_finds_8 e62 ?_
        refine r_sipush (v := 208) C dX12_finds_11 (by decide) ?_
        refine r_iload_n C dX12_finds_14 rfl ?_
        refine r_iadd C dX12_finds_15 ?_
        refine r_lconst (v := 0) C dX12_finds_16 (by decide) ?_
        obtain ⟨h63, e64, hf1⟩ := ob hf1
        refine r_stJ C dX12_finds_17 e64 ?_
        obtain ⟨t65, e66, hf1⟩ := ob hf1
        refine r_iinc (lv' := [(1, .int t65), (0, .ref v0)]) C dX12_finds_18 rfl e66 (by decide) rfl ?_
        refine r_goto (tgt := 2) C dX12_finds_21 (by decide) ?_
        obtain rfl := so hf1
        refine r_subk [1, 0] (lv' := [(0, .ref v0), (1, .int t65)]) rfl ?_
        exact ih2 t65 h63 hk2
  refine r_subk [1, 0] (lv' := [(0, .ref v0), (1, .int (0 : Int32))]) rfl ?_
  exact L2 wN (0 : Int32) h hl2
def f_X12_isDoing (h : aH) (v0 : Nat) (v1 : Int32) : Option (Int32) := (gI h 12 v0 26).bind fun t1 => if t1 ≤ 0 then some (0 : Int32) else (gR h 12 v0 24).bind fun t2 => (gI h 12 v0 26).bind fun t3 => (lI h t2 (t3 - (1 : Int32))).bind fun t4 => if t4 = v1 then some (1 : Int32) else some (0 : Int32)
theorem s_X12_isDoing {h : aH} {v0 : Nat} {v1 : Int32} {out : Int32} (hf0 : f_X12_isDoing h v0 v1 = some out) : EV 0 yX12_isDoing cX12_isDoing 2 (some .boolean) h [.ref v0, .int v1] (some (.int out)) h 0 0 := by
  refine EV.of (own := RX12) (lv0 := [(0, .ref v0), (1, .int v1)]) (by decide +kernel) rfl rfl (Nat.le_of_ble_eq_true rfl) ?_
  intro p l e s m args below meth c D cA B Hb C hin
  unfold f_X12_isDoing at hf0
  refine r_aload_n C dX12_isDoing_0 rfl ?_
  obtain ⟨t1, e2, hf0⟩ := ob hf0
  refine r_getI C fk_X12_238 rfl dX12_isDoing_1 e2 ?_
  refine r_ifle (tgt := 26) C dX12_isDoing_4 (by decide) (fun c3 => ?_) (fun c3 => ?_)
  · rw [if_pos c3] at hf0
    refine r_iconst (v := 0) C dX12_isDoing_26 (by decide) ?_
    obtain rfl := so hf0
    exact r_zret C dX12_isDoing_27 (Or.inl rfl)
  · rw [if_neg c3] at hf0
    refine r_aload_n C dX12_isDoing_7 rfl ?_
    obtain ⟨t4, e5, hf0⟩ := ob hf0
    refine r_getR C fk_X12_53 rfl dX12_isDoing_8 e5 ?_
    refine r_aload_n C dX12_isDoing_11 rfl ?_
    obtain ⟨t6, e7, hf0⟩ := ob hf0
    refine r_getI C fk_X12_238 rfl dX12_isDoing_12 e7 ?_
    refine r_iconst (v := 1) C dX12_isDoing_15 (by decide) ?_
    refine r_isub C dX12_isDoing_16 ?_
    obtain ⟨t8, e9, hf0⟩ := ob hf0
    refine r_ldI C dX12_isDoing_17 e9 ?_
    refine r_iload_n C dX12_isDoing_18 rfl ?_
    refine r_icmp_ne (tgt := 26) C dX12_isDoing_19 (by decide) (fun c10 => ?_) (fun c10 => ?_)
    · rw [if_neg c10] at hf0
      refine r_iconst (v := 0) C dX12_isDoing_26 (by decide) ?_
      obtain rfl := so hf0
      exact r_zret C dX12_isDoing_27 (Or.inl rfl)
    · rw [if_pos c10] at hf0
      refine r_iconst (v := 1) C dX12_isDoing_22 (by decide) ?_
      refine r_goto (tgt := 27) C dX12_isDoing_23 (by decide) ?_
      obtain rfl := so hf0
      exact r_zret C dX12_isDoing_27 (Or.inr rfl)
def f_X12_does (h : aH) (v0 : Nat) (v1 : Int32) : Option (aH) := (gR h 12 v0 24).bind fun t1 => (gI h 12 v0 26).bind fun t2 => (sI h t1 t2 v1).bind fun h3 => (gI h3 12 v0 26).bind fun t4 => (pI h3 12 v0 26 (t4 + (1 : Int32))).bind fun h5 => some h5
theorem s_X12_does {h : aH} {v0 : Nat} {v1 : Int32} {out : aH} (hf0 : f_X12_does h v0 v1 = some out) : EV 0 yX12_does cX12_does 2 none h [.ref v0, .int v1] none out 0 0 := by
  refine EV.of (own := RX12) (lv0 := [(0, .ref v0), (1, .int v1)]) (by decide +kernel) rfl rfl (Nat.le_of_ble_eq_true rfl) ?_
  intro p l e s m args below meth c D cA B Hb C hin
  unfold f_X12_does at hf0
  refine r_aload_n C dX12_does_0 rfl ?_
  obtain ⟨t1, e2, hf0⟩ := ob hf0
  refine r_getR C fk_X12_53 rfl dX12_does_1 e2 ?_
  refine r_aload_n C dX12_does_4 rfl ?_
  obtain ⟨t3, e4, hf0⟩ := ob hf0
  refine r_getI C fk_X12_238 rfl dX12_does_5 e4 ?_
  refine r_iload_n C dX12_does_8 rfl ?_
  obtain ⟨h5, e6, hf0⟩ := ob hf0
  refine r_stI C dX12_does_9 e6 ?_
  refine r_aload_n C dX12_does_10 rfl ?_
  refine r_dup C dX12_does_11 rfl ?_
  obtain ⟨t7, e8, hf0⟩ := ob hf0
  refine r_getI C fk_X12_238 rfl dX12_does_12 e8 ?_
  refine r_iconst (v := 1) C dX12_does_15 (by decide) ?_
  refine r_iadd C dX12_does_16 ?_
  obtain ⟨h9, e10, hf0⟩ := ob hf0
  refine r_putI C fk_X12_238 dX12_does_17 e10 ?_
  obtain rfl := so hf0
  exact r_vret C dX12_does_20
def f_X12_joins_j97 (h : aH) (v0 : Nat) (v1 : Int32) (s0 : Nat) (s1 : Int32) (s2 : Int64) : Option ((Int32 × aH) ⊕ (aH)) := (sJ h s0 s1 s2).bind fun h5 => (some (v1 + (1 : Int32))).bind fun t6 => some (.inl (t6, h5))
def f_X12_joins_b22 (v0 : Nat) (v1 : Int32) (h : aH) : Option ((Int32 × aH) ⊕ (aH)) := if (4 : Int32) ≤ v1 then some (.inr h) else (gR h 12 v0 23).bind fun t7 => (gI h 12 v0 25).bind fun t8 => (lJ h t7 ((((4 : Int32) * t8) - (4 : Int32)) + v1)).bind fun t9 => (gR h 12 v0 23).bind fun t10 => (gI h 12 v0 25).bind fun t11 => (lJ h t10 (((4 : Int32) * t11) + v1)).bind fun t12 => (gR h 12 v0 23).bind fun t13 => (gI h 12 v0 25).bind fun t14 => (gR h 12 v0 24).bind fun t15 => (gI h 12 v0 26).bind fun t16 => (lI h t15 t16).bind fun t17 => if t17 = (11 : Int32) then f_X12_joins_j97 h v0 v1 t13 ((((4 : Int32) * t14) - (4 : Int32)) + v1) (t9 &&& t12) else f_X12_joins_j97 h v0 v1 t13 ((((4 : Int32) * t14) - (4 : Int32)) + v1) (t9 ||| t12)
def f_X12_joins_l22 (v0 : Nat) (v1 : Int32) (h : aH) : Option (aH) := whileL wN (fun q : Int32 × aH => f_X12_joins_b22 v0 q.1 q.2) (v1, h)
def f_X12_joins (h : aH) (v0 : Nat) : Option (aH) := (gI h 12 v0 26).bind fun t1 => (pI h 12 v0 26 (t1 - (1 : Int32))).bind fun h2 => (gI h2 12 v0 25).bind fun t3 => (pI h2 12 v0 25 (t3 - (1 : Int32))).bind fun h4 => (f_X12_joins_l22 v0 (0 : Int32) h4).bind fun h18 => some h18
theorem s_X12_joins {h : aH} {v0 : Nat} {out : aH} (hf0 : f_X12_joins h v0 = some out) : EV 0 yX12_joins cX12_joins 6 none h [.ref v0] none out 0 0 := by
  refine EV.of (own := RX12) (lv0 := [(0, .ref v0)]) (by decide +kernel) rfl rfl (Nat.le_of_ble_eq_true rfl) ?_
  intro p l e s m args below meth c D cA B Hb C hin
  unfold f_X12_joins at hf0
  refine r_aload_n C dX12_joins_0 rfl ?_
  refine r_dup C dX12_joins_1 rfl ?_
  obtain ⟨t1, e2, hf0⟩ := ob hf0
  refine r_getI C fk_X12_238 rfl dX12_joins_2 e2 ?_
  refine r_iconst (v := 1) C dX12_joins_5 (by decide) ?_
  refine r_isub C dX12_joins_6 ?_
  obtain ⟨h3, e4, hf0⟩ := ob hf0
  refine r_putI C fk_X12_238 dX12_joins_7 e4 ?_
  refine r_aload_n C dX12_joins_10 rfl ?_
  refine r_dup C dX12_joins_11 rfl ?_
  obtain ⟨t5, e6, hf0⟩ := ob hf0
  refine r_getI C fk_X12_241 rfl dX12_joins_12 e6 ?_
  refine r_iconst (v := 1) C dX12_joins_15 (by decide) ?_
  refine r_isub C dX12_joins_16 ?_
  obtain ⟨h7, e8, hf0⟩ := ob hf0
  refine r_putI C fk_X12_241 dX12_joins_17 e8 ?_
  refine r_iconst (v := 0) C dX12_joins_20 (by decide) ?_
  refine r_istore_n (lv' := [(1, .int (0 : Int32)), (0, .ref v0)]) C dX12_joins_21 (by decide) rfl rfl ?_
  obtain ⟨y9, hl22, hf0⟩ := ob hf0
  have L22 : ∀ (n : Nat) (t10 : Int32) (h11 : aH), whileL n (fun q : Int32 × aH => f_X12_joins_b22 v0 q.1 q.2) (t10, h11) = some y9 → gW p l e (rmO 0 0 0) s m args below meth c (MQ below (eQ D cA B Hb out none) args s 0 0 (fun q => B ≤ q)) D cA B Hb 6 h11 22 [(0, .ref v0), (1, .int t10)] [] 0 0 := by
    intro n
    induction n with
    | zero => intro t10 h11 hz; cases hz
    | succ n ih22 =>
      intro t10 h11 hz
      obtain ⟨x22, hf1, hk22⟩ := wl hz
      replace hf1 : f_X12_joins_b22 v0 t10 h11 = some x22 := hf1
      unfold f_X12_joins_b22 at hf1
      have J97 : ∀ (h12 : aH) (t13 : Int32) (t14 : Nat) (t15 : Int32) (t16 : Int64), f_X12_joins_j97 h12 v0 t13 t14 t15 t16 = some x22 → gW p l e (rmO 0 0 0) s m args below meth c (MQ below (eQ D cA B Hb out none) args s 0 0 (fun q => B ≤ q)) D cA B Hb 6 h12 97 [(0, .ref v0), (1, .int t13)] [.long t16, .int t15, .ref t14] 0 0 := by
        intro h12 t13 t14 t15 t16 hf1
        unfold f_X12_joins_j97 at hf1
        obtain ⟨h17, e18, hf1⟩ := ob hf1
        refine r_stJ C dX12_joins_97 e18 ?_
        obtain ⟨t19, e20, hf1⟩ := ob hf1
        refine r_iinc (lv' := [(1, .int t19), (0, .ref v0)]) C dX12_joins_98 rfl e20 (by decide) rfl ?_
        refine r_goto (tgt := 22) C dX12_joins_101 (by decide) ?_
        obtain rfl := so hf1
        refine r_subk [1, 0] (lv' := [(0, .ref v0), (1, .int t19)]) rfl ?_
        exact ih22 t19 h17 hk22
      refine r_iload_n C dX12_joins_22 rfl ?_
      refine r_iconst (v := 4) C dX12_joins_23 (by decide) ?_
      refine r_icmp_ge (tgt := 104) C dX12_joins_24 (by decide) (fun c21 => ?_) (fun c21 => ?_)
      · rw [if_pos c21] at hf1
        obtain rfl := so hf1
        obtain rfl := so (show some h11 = some y9 from hk22)
        obtain rfl := so hf0
        exact r_vret C dX12_joins_104
      · rw [if_neg c21] at hf1
        refine r_aload_n C dX12_joins_27 rfl ?_
        obtain ⟨t22, e23, hf1⟩ := ob hf1
        refine r_getR C fk_X12_50 rfl dX12_joins_28 e23 ?_
        refine r_iconst (v := 4) C dX12_joins_31 (by decide) ?_
        refine r_aload_n C dX12_joins_32 rfl ?_
        obtain ⟨t24, e25, hf1⟩ := ob hf1
        refine r_getI C fk_X12_241 rfl dX12_joins_33 e25 ?_
        refine r_imul C dX12_joins_36 ?_
        refine r_iconst (v := 4) C dX12_joins_37 (by decide) ?_
        refine r_isub C dX12_joins_38 ?_
        refine r_iload_n C dX12_joins_39 rfl ?_
        refine r_iadd C dX12_joins_40 ?_
        obtain ⟨t26, e27, hf1⟩ := ob hf1
        refine r_ldJ C dX12_joins_41 e27 ?_
        refine r_lstore_n (lv' := [(2, .long t26), (0, .ref v0), (1, .int t10)]) C dX12_joins_42 (by decide) rfl rfl ?_
        refine r_aload_n C dX12_joins_43 rfl ?_
        obtain ⟨t28, e29, hf1⟩ := ob hf1
        refine r_getR C fk_X12_50 rfl dX12_joins_44 e29 ?_
        refine r_iconst (v := 4) C dX12_joins_47 (by decide) ?_
        refine r_aload_n C dX12_joins_48 rfl ?_
        obtain ⟨t30, e31, hf1⟩ := ob hf1
        refine r_getI C fk_X12_241 rfl dX12_joins_49 e31 ?_
        refine r_imul C dX12_joins_52 ?_
        refine r_iload_n C dX12_joins_53 rfl ?_
        refine r_iadd C dX12_joins_54 ?_
        obtain ⟨t32, e33, hf1⟩ := ob hf1
        refine r_ldJ C dX12_joins_55 e33 ?_
        refine r_lstore (lv' := [(4, .long t32), (2, .long t26), (0, .ref v0), (1, .int t10)]) C dX12_joins_56 (by decide) rfl rfl ?_
        refine r_aload_n C dX12_joins_58 rfl ?_
        obtain ⟨t34, e35, hf1⟩ := ob hf1
        refine r_getR C fk_X12_50 rfl dX12_joins_59 e35 ?_
        refine r_iconst (v := 4) C dX12_joins_62 (by decide) ?_
        refine r_aload_n C dX12_joins_63 rfl ?_
        obtain ⟨t36, e37, hf1⟩ := ob hf1
        refine r_getI C fk_X12_241 rfl dX12_joins_64 e37 ?_
        refine r_imul C dX12_joins_67 ?_
        refine r_iconst (v := 4) C dX12_joins_68 (by decide) ?_
        refine r_isub C dX12_joins_69 ?_
        refine r_iload_n C dX12_joins_70 rfl ?_
        refine r_iadd C dX12_joins_71 ?_
        refine r_aload_n C dX12_joins_72 rfl ?_
        obtain ⟨t38, e39, hf1⟩ := ob hf1
        refine r_getR C fk_X12_53 rfl dX12_joins_73 e39 ?_
        refine r_aload_n C dX12_joins_76 rfl ?_
        obtain ⟨t40, e41, hf1⟩ := ob hf1
        refine r_getI C fk_X12_238 rfl dX12_joins_77 e41 ?_
        obtain ⟨t42, e43, hf1⟩ := ob hf1
        refine r_ldI C dX12_joins_80 e43 ?_
        refine r_bipush (v := 11) C dX12_joins_81 (by decide) ?_
        refine r_icmp_ne (tgt := 93) C dX12_joins_83 (by decide) (fun c44 => ?_) (fun c44 => ?_)
        · rw [if_neg c44] at hf1
          refine r_lload_n C dX12_joins_93 rfl ?_
          refine r_lload C dX12_joins_94 rfl ?_
          refine r_lor C dX12_joins_96 ?_
          refine r_subk [2, 3] (lv' := [(0, .ref v0), (1, .int t10)]) rfl ?_
          exact J97 h11 t10 t34 ((((4 : Int32) * t36) - (4 : Int32)) + t10) (t26 ||| t32) hf1
        · rw [if_pos c44] at hf1
          refine r_lload_n C dX12_joins_86 rfl ?_
          refine r_lload C dX12_joins_87 rfl ?_
          refine r_land C dX12_joins_89 ?_
          refine r_goto (tgt := 97) C dX12_joins_90 (by decide) ?_
          refine r_subk [2, 3] (lv' := [(0, .ref v0), (1, .int t10)]) rfl ?_
          exact J97 h11 t10 t34 ((((4 : Int32) * t36) - (4 : Int32)) + t10) (t26 &&& t32) hf1
  refine r_subk [1, 0] (lv' := [(0, .ref v0), (1, .int (0 : Int32))]) rfl ?_
  exact L22 wN (0 : Int32) h7 hl22
def f_X12_turnsRound_b31 (v0 : Nat) (v1 : Int32) (h : aH) : Option ((Int32 × aH) ⊕ (aH)) := if (4 : Int32) ≤ v1 then some (.inr h) else (gR h 12 v0 23).bind fun t6 => (gI h 12 v0 25).bind fun t7 => (gR h 12 v0 23).bind fun t8 => (gI h 12 v0 25).bind fun t9 => (lJ h t8 ((((4 : Int32) * t9) - (4 : Int32)) + v1)).bind fun t10 => (sJ h t6 ((((4 : Int32) * t7) - (4 : Int32)) + v1) (t10 ^^^ (-1 : Int64))).bind fun h11 => (some (v1 + (1 : Int32))).bind fun t12 => some (.inl (t12, h11))
def f_X12_turnsRound_l31 (v0 : Nat) (v1 : Int32) (h : aH) : Option (aH) := whileL wN (fun q : Int32 × aH => f_X12_turnsRound_b31 v0 q.1 q.2) (v1, h)
def f_X12_turnsRound_b0 (v0 : Nat) (h : aH) : Option ((aH) ⊕ (aH)) := (ck h 12 v0).bind fun _ => (f_X12_isDoing h v0 (12 : Int32)).bind fun t1 => if t1 = 0 then some (.inr h) else (gI h 12 v0 26).bind fun t2 => (pI h 12 v0 26 (t2 - (1 : Int32))).bind fun h3 => (gI h3 12 v0 27).bind fun t4 => (pI h3 12 v0 27 (t4 - (1 : Int32))).bind fun h5 => (f_X12_turnsRound_l31 v0 (0 : Int32) h5).bind fun h13 => some (.inl h13)
def f_X12_turnsRound_l0 (v0 : Nat) (h : aH) : Option (aH) := whileL wN (fun q : aH => f_X12_turnsRound_b0 v0 q) h
def f_X12_turnsRound (h : aH) (v0 : Nat) : Option (aH) := (f_X12_turnsRound_l0 v0 h).bind fun h14 => some h14
theorem s_X12_turnsRound {h : aH} {v0 : Nat} {out : aH} (hf0 : f_X12_turnsRound h v0 = some out) : EV 1 yX12_turnsRound cX12_turnsRound 2 none h [.ref v0] none out 0 0 := by
  refine EV.of (own := RX12) (lv0 := [(0, .ref v0)]) (by decide +kernel) rfl rfl (Nat.le_of_ble_eq_true rfl) ?_
  intro p l e s m args below meth c D cA B Hb C hin
  unfold f_X12_turnsRound at hf0
  obtain ⟨y1, hl0, hf0⟩ := ob hf0
  have L0 : ∀ (n : Nat) (h2 : aH), whileL n (fun q : aH => f_X12_turnsRound_b0 v0 q) h2 = some y1 → gW p l e (rmO 1 0 0) s m args below meth c (MQ below (eQ D cA B Hb out none) args s 0 0 (fun q => B ≤ q)) D cA B Hb 2 h2 0 [(0, .ref v0)] [] 0 0 := by
    intro n
    induction n with
    | zero => intro h2 hz; cases hz
    | succ n ih0 =>
      intro h2 hz
      obtain ⟨x0, hf1, hk0⟩ := wl hz
      replace hf1 : f_X12_turnsRound_b0 v0 h2 = some x0 := hf1
      unfold f_X12_turnsRound_b0 at hf1
      refine r_aload_n C dX12_turnsRound_0 rfl ?_
      refine r_bipush (v := 12) C dX12_turnsRound_1 (by decide) ?_
      obtain ⟨u4, e3, hf1⟩ := ob hf1
      obtain ⟨t5, e6, hf1⟩ := ob hf1
      refine r_cV (ci := 12) (rest := []) (st2 := [.int t5]) C (s_X12_isDoing e6) mk_X12_isDoing rfl (ck_k e3) (by decide) im_X12_isDoing sl_X12_isDoing lk_X12_244 rfl rfl rfl dX12_turnsRound_3 (Nat.le_of_ble_eq_true rfl) ⟨Nat.le_of_ble_eq_true rfl, Nat.le_of_ble_eq_true rfl⟩ ⟨Nat.le_of_ble_eq_true rfl, Nat.le_of_ble_eq_true rfl⟩ ?_
      refine r_ifeq (tgt := 79) C dX12_turnsRound_6 (by decide) (fun c7 => ?_) (fun c7 => ?_)
      · rw [if_pos c7] at hf1
        obtain rfl := so hf1
        obtain rfl := so (show some h2 = some y1 from hk0)
        obtain rfl := so hf0
        exact r_vret C dX12_turnsRound_79
      · rw [if_neg c7] at hf1
        refine r_aload_n C dX12_turnsRound_9 rfl ?_
        refine r_dup C dX12_turnsRound_10 rfl ?_
        obtain ⟨t8, e9, hf1⟩ := ob hf1
        refine r_getI C fk_X12_238 rfl dX12_turnsRound_11 e9 ?_
        refine r_iconst (v := 1) C dX12_turnsRound_14 (by decide) ?_
        refine r_isub C dX12_turnsRound_15 ?_
        obtain ⟨h10, e11, hf1⟩ := ob hf1
        refine r_putI C fk_X12_238 dX12_turnsRound_16 e11 ?_
        refine r_aload_n C dX12_turnsRound_19 rfl ?_
        refine r_dup C dX12_turnsRound_20 rfl ?_
        obtain ⟨t12, e13, hf1⟩ := ob hf1
        refine r_getI C fk_X12_247 rfl dX12_turnsRound_21 e13 ?_
        refine r_iconst (v := 1) C dX12_turnsRound_24 (by decide) ?_
        refine r_isub C dX12_turnsRound_25 ?_
        obtain ⟨h14, e15, hf1⟩ := ob hf1
        refine r_putI C fk_X12_247 dX12_turnsRound_26 e15 ?_
        refine r_iconst (v := 0) C dX12_turnsRound_29 (by decide) ?_
        refine r_istore_n (lv' := [(1, .int (0 : Int32)), (0, .ref v0)]) C dX12_turnsRound_30 (by decide) rfl rfl ?_
        obtain ⟨y16, hl31, hf1⟩ := ob hf1
        have L31 : ∀ (n : Nat) (t17 : Int32) (h18 : aH), whileL n (fun q : Int32 × aH => f_X12_turnsRound_b31 v0 q.1 q.2) (t17, h18) = some y16 → gW p l e (rmO 1 0 0) s m args below meth c (MQ below (eQ D cA B Hb out none) args s 0 0 (fun q => B ≤ q)) D cA B Hb 2 h18 31 [(0, .ref v0), (1, .int t17)] [] 0 0 := by
          intro n
          induction n with
          | zero => intro t17 h18 hz; cases hz
          | succ n ih31 =>
            intro t17 h18 hz
            obtain ⟨x31, hf2, hk31⟩ := wl hz
            replace hf2 : f_X12_turnsRound_b31 v0 t17 h18 = some x31 := hf2
            unfold f_X12_turnsRound_b31 at hf2
            refine r_iload_n C dX12_turnsRound_31 rfl ?_
            refine r_iconst (v := 4) C dX12_turnsRound_32 (by decide) ?_
            refine r_icmp_ge (tgt := 76) C dX12_turnsRound_33 (by decide) (fun c19 => ?_) (fun c19 => ?_)
            · rw [if_pos c19] at hf2
              obtain rfl := so hf2
              obtain rfl := so (show some h18 = some y16 from hk31)
              refine r_goto (tgt := 0) C dX12_turnsRound_76 (by decide) ?_
              obtain rfl := so hf1
              refine r_subk [0] (lv' := [(0, .ref v0)]) rfl ?_
              exact ih0 h18 hk0
            · rw [if_neg c19] at hf2
              refine r_aload_n C dX12_turnsRound_36 rfl ?_
              obtain ⟨t20, e21, hf2⟩ := ob hf2
              refine r_getR C fk_X12_50 rfl dX12_turnsRound_37 e21 ?_
              refine r_iconst (v := 4) C dX12_turnsRound_40 (by decide) ?_
              refine r_aload_n C dX12_turnsRound_41 rfl ?_
              obtain ⟨t22, e23, hf2⟩ := ob hf2
              refine r_getI C fk_X12_241 rfl dX12_turnsRound_42 e23 ?_
              refine r_imul C dX12_turnsRound_45 ?_
              refine r_iconst (v := 4) C dX12_turnsRound_46 (by decide) ?_
              refine r_isub C dX12_turnsRound_47 ?_
              refine r_iload_n C dX12_turnsRound_48 rfl ?_
              refine r_iadd C dX12_turnsRound_49 ?_
              refine r_aload_n C dX12_turnsRound_50 rfl ?_
              obtain ⟨t24, e25, hf2⟩ := ob hf2
              refine r_getR C fk_X12_50 rfl dX12_turnsRound_51 e25 ?_
              refine r_iconst (v := 4) C dX12_turnsRound_54 (by decide) ?_
              refine r_aload_n C dX12_turnsRound_55 rfl ?_
              obtain ⟨t26, e27, hf2⟩ := ob hf2
              refine r_getI C fk_X12_241 rfl dX12_turnsRound_56 e27 ?_
              refine r_imul C dX12_turnsRound_59 ?_
              refine r_iconst (v := 4) C dX12_turnsRound_60 (by decide) ?_
              refine r_isub C dX12_turnsRound_61 ?_
              refine r_iload_n C dX12_turnsRound_62 rfl ?_
              refine r_iadd C dX12_turnsRound_63 ?_
              obtain ⟨t28, e29, hf2⟩ := ob hf2
              refine r_ldJ C dX12_turnsRound_64 e29 ?_
              refine r_ldc2 (v := -1) C dX12_turnsRound_65 cl_X12_124 ?_
              refine r_lxor C dX12_turnsRound_68 ?_
              obtain ⟨h30, e31, hf2⟩ := ob hf2
              refine r_stJ C dX12_turnsRound_69 e31 ?_
              obtain ⟨t32, e33, hf2⟩ := ob hf2
              refine r_iinc (lv' := [(1, .int t32), (0, .ref v0)]) C dX12_turnsRound_70 rfl e33 (by decide) rfl ?_
              refine r_goto (tgt := 31) C dX12_turnsRound_73 (by decide) ?_
              obtain rfl := so hf2
              refine r_subk [1, 0] (lv' := [(0, .ref v0), (1, .int t32)]) rfl ?_
              exact ih31 t32 h30 hk31
        refine r_subk [1, 0] (lv' := [(0, .ref v0), (1, .int (0 : Int32))]) rfl ?_
        exact L31 wN (0 : Int32) h14 hl31
  exact L0 wN h hl0
def f_X12_pushes_b2 (v0 : Nat) (v1 : Int32) (v2 : Int32) (h : aH) : Option ((Int32 × aH) ⊕ (aH)) := if (4 : Int32) ≤ v2 then some (.inr h) else (gR h 12 v0 23).bind fun t1 => (gI h 12 v0 25).bind fun t2 => (sJ h t1 (((4 : Int32) * t2) + v2) (0 : Int64)).bind fun h3 => (some (v2 + (1 : Int32))).bind fun t4 => some (.inl (t4, h3))
def f_X12_pushes_l2 (v0 : Nat) (v1 : Int32) (v2 : Int32) (h : aH) : Option (aH) := whileL wN (fun q : Int32 × aH => f_X12_pushes_b2 v0 v1 q.1 q.2) (v2, h)
def f_X12_pushes_j88 (h : aH) (v0 : Nat) (v1 : Int32) (v2 : Int32) : Option ((Int32 × aH) ⊕ (aH)) := (some (v2 + (1 : Int32))).bind fun t6 => some (.inl (t6, h))
def f_X12_pushes_b29 (v0 : Nat) (v1 : Int32) (v2 : Int32) (h : aH) : Option ((Int32 × aH) ⊕ (aH)) := (gR h 12 v0 0).bind fun t7 => (lI h t7 (1602 : Int32)).bind fun t8 => if t8 ≤ v2 then some (.inr h) else (gR h 12 v0 0).bind fun t9 => (lI h t9 ((1608 : Int32) + v1)).bind fun t10 => (ck h 12 v0).bind fun _ => (f_X12_valueIn h v0 (1600 : Int32) v2 t10).bind fun t11 => if t11 = v1 then (gR h 12 v0 23).bind fun t12 => (gI h 12 v0 25).bind fun t13 => (nz (64 : Int32)).bind fun _ => (lJ h t12 (((4 : Int32) * t13) + (v2 / (64 : Int32)))).bind fun t14 => (nz (64 : Int32)).bind fun _ => (sJ h t12 (((4 : Int32) * t13) + (v2 / (64 : Int32))) (t14 ||| ((1 : Int64) <<< (Int32.toInt64 (v2 - v2 / (64 : Int32) * (64 : Int32)) &&& 63)))).bind fun h15 => f_X12_pushes_j88 h15 v0 v1 v2 else f_X12_pushes_j88 h v0 v1 v2
def f_X12_pushes_l29 (v0 : Nat) (v1 : Int32) (v2 : Int32) (h : aH) : Option (aH) := whileL wN (fun q : Int32 × aH => f_X12_pushes_b29 v0 v1 q.1 q.2) (v2, h)
def f_X12_pushes (h : aH) (v0 : Nat) (v1 : Int32) : Option (aH) := (f_X12_pushes_l2 v0 v1 (0 : Int32) h).bind fun h5 => (f_X12_pushes_l29 v0 v1 (0 : Int32) h5).bind fun h16 => (gI h16 12 v0 25).bind fun t17 => (pI h16 12 v0 25 (t17 + (1 : Int32))).bind fun h18 => some h18
theorem s_X12_pushes {h : aH} {v0 : Nat} {v1 : Int32} {out : aH} (hf0 : f_X12_pushes h v0 v1 = some out) : EV 1 yX12_pushes cX12_pushes 3 none h [.ref v0, .int v1] none out 0 0 := by
  refine EV.of (own := RX12) (lv0 := [(0, .ref v0), (1, .int v1)]) (by decide +kernel) rfl rfl (Nat.le_of_ble_eq_true rfl) ?_
  intro p l e s m args below meth c D cA B Hb C hin
  unfold f_X12_pushes at hf0
  refine r_iconst (v := 0) C dX12_pushes_0 (by decide) ?_
  refine r_istore_n (lv' := [(2, .int (0 : Int32)), (0, .ref v0), (1, .int v1)]) C dX12_pushes_1 (by decide) rfl rfl ?_
  obtain ⟨y1, hl2, hf0⟩ := ob hf0
  have L2 : ∀ (n : Nat) (t2 : Int32) (h3 : aH), whileL n (fun q : Int32 × aH => f_X12_pushes_b2 v0 v1 q.1 q.2) (t2, h3) = some y1 → gW p l e (rmO 1 0 0) s m args below meth c (MQ below (eQ D cA B Hb out none) args s 0 0 (fun q => B ≤ q)) D cA B Hb 3 h3 2 [(0, .ref v0), (1, .int v1), (2, .int t2)] [] 0 0 := by
    intro n
    induction n with
    | zero => intro t2 h3 hz; cases hz
    | succ n ih2 =>
      intro t2 h3 hz
      obtain ⟨x2, hf1, hk2⟩ := wl hz
      replace hf1 : f_X12_pushes_b2 v0 v1 t2 h3 = some x2 := hf1
      unfold f_X12_pushes_b2 at hf1
      refine r_iload_n C dX12_pushes_2 rfl ?_
      refine r_iconst (v := 4) C dX12_pushes_3 (by decide) ?_
      refine r_icmp_ge (tgt := 27) C dX12_pushes_4 (by decide) (fun c4 => ?_) (fun c4 => ?_)
      · rw [if_pos c4] at hf1
        obtain rfl := so hf1
        obtain rfl := so (show some h3 = some y1 from hk2)
        refine r_iconst (v := 0) C dX12_pushes_27 (by decide) ?_
        refine r_istore_n (lv' := [(2, .int (0 : Int32)), (0, .ref v0), (1, .int v1)]) C dX12_pushes_28 (by decide) rfl rfl ?_
        obtain ⟨y5, hl29, hf0⟩ := ob hf0
        have L29 : ∀ (n : Nat) (t6 : Int32) (h7 : aH), whileL n (fun q : Int32 × aH => f_X12_pushes_b29 v0 v1 q.1 q.2) (t6, h7) = some y5 → gW p l e (rmO 1 0 0) s m args below meth c (MQ below (eQ D cA B Hb out none) args s 0 0 (fun q => B ≤ q)) D cA B Hb 3 h7 29 [(0, .ref v0), (1, .int v1), (2, .int t6)] [] 0 0 := by
          intro n
          induction n with
          | zero => intro t6 h7 hz; cases hz
          | succ n ih29 =>
            intro t6 h7 hz
            obtain ⟨x29, hf1, hk29⟩ := wl hz
            replace hf1 : f_X12_pushes_b29 v0 v1 t6 h7 = some x29 := hf1
            unfold f_X12_pushes_b29 at hf1
            have J88 : ∀ (h8 : aH) (t9 : Int32), f_X12_pushes_j88 h8 v0 v1 t9 = some x29 → gW p l e (rmO 1 0 0) s m args below meth c (MQ below (eQ D cA B Hb out none) args s 0 0 (fun q => B ≤ q)) D cA B Hb 3 h8 88 [(0, .ref v0), (1, .int v1), (2, .int t9)] [] 0 0 := by
              intro h8 t9 hf1
              unfold f_X12_pushes_j88 at hf1
              obtain ⟨t10, e11, hf1⟩ := ob hf1
              refine r_iinc (lv' := [(2, .int t10), (0, .ref v0), (1, .int v1)]) C dX12_pushes_88 rfl e11 (by decide) rfl ?_
              refine r_goto (tgt := 29) C dX12_pushes_91 (by decide) ?_
              obtain rfl := so hf1
              refine r_subk [1, 2, 0] (lv' := [(0, .ref v0), (1, .int v1), (2, .int t10)]) rfl ?_
              exact ih29 t10 h8 hk29
            refine r_iload_n C dX12_pushes_29 rfl ?_
            refine r_aload_n C dX12_pushes_30 rfl ?_
            obtain ⟨t12, e13, hf1⟩ := ob hf1
            refine r_getR C fk_X12_7 rfl dX12_pushes_31 e13 ?_
            refine r_sipush (v := 1602) C dX12_pushes_34 (by decide) ?_
            obtain ⟨t14, e15, hf1⟩ := ob hf1
            refine r_ldI C dX12_pushes_37 e15 ?_
            refine r_icmp_ge (tgt := 94) C dX12_pushes_38 (by decide) (fun c16 => ?_) (fun c16 => ?_)
            · rw [if_pos c16] at hf1
              obtain rfl := so hf1
              obtain rfl := so (show some h7 = some y5 from hk29)
              refine r_aload_n C dX12_pushes_94 rfl ?_
              refine r_dup C dX12_pushes_95 rfl ?_
              obtain ⟨t17, e18, hf0⟩ := ob hf0
              refine r_getI C fk_X12_241 rfl dX12_pushes_96 e18 ?_
              refine r_iconst (v := 1) C dX12_pushes_99 (by decide) ?_
              refine r_iadd C dX12_pushes_100 ?_
              obtain ⟨h19, e20, hf0⟩ := ob hf0
              refine r_putI C fk_X12_241 dX12_pushes_101 e20 ?_
              obtain rfl := so hf0
              exact r_vret C dX12_pushes_104
            · rw [if_neg c16] at hf1
              refine r_aload_n C dX12_pushes_41 rfl ?_
              refine r_sipush (v := 1600) C dX12_pushes_42 (by decide) ?_
              refine r_iload_n C dX12_pushes_45 rfl ?_
              refine r_aload_n C dX12_pushes_46 rfl ?_
              obtain ⟨t21, e22, hf1⟩ := ob hf1
              refine r_getR C fk_X12_7 rfl dX12_pushes_47 e22 ?_
              refine r_sipush (v := 1608) C dX12_pushes_50 (by decide) ?_
              refine r_iload_n C dX12_pushes_53 rfl ?_
              refine r_iadd C dX12_pushes_54 ?_
              obtain ⟨t23, e24, hf1⟩ := ob hf1
              refine r_ldI C dX12_pushes_55 e24 ?_
              obtain ⟨u26, e25, hf1⟩ := ob hf1
              obtain ⟨t27, e28, hf1⟩ := ob hf1
              refine r_cV (ci := 12) (rest := []) (st2 := [.int t27]) C (s_X12_valueIn e28) mk_X12_valueIn rfl (ck_k e25) (by decide) im_X12_valueIn sl_X12_valueIn lk_X12_234 rfl rfl rfl dX12_pushes_56 (Nat.le_of_ble_eq_true rfl) ⟨Nat.le_of_ble_eq_true rfl, Nat.le_of_ble_eq_true rfl⟩ ⟨Nat.le_of_ble_eq_true rfl, Nat.le_of_ble_eq_true rfl⟩ ?_
              refine r_iload_n C dX12_pushes_59 rfl ?_
              refine r_icmp_ne (tgt := 88) C dX12_pushes_60 (by decide) (fun c29 => ?_) (fun c29 => ?_)
              · rw [if_neg c29] at hf1
                exact J88 h7 t6 hf1
              · rw [if_pos c29] at hf1
                refine r_aload_n C dX12_pushes_63 rfl ?_
                obtain ⟨t30, e31, hf1⟩ := ob hf1
                refine r_getR C fk_X12_50 rfl dX12_pushes_64 e31 ?_
                refine r_iconst (v := 4) C dX12_pushes_67 (by decide) ?_
                refine r_aload_n C dX12_pushes_68 rfl ?_
                obtain ⟨t32, e33, hf1⟩ := ob hf1
                refine r_getI C fk_X12_241 rfl dX12_pushes_69 e33 ?_
                refine r_imul C dX12_pushes_72 ?_
                refine r_iload_n C dX12_pushes_73 rfl ?_
                refine r_bipush (v := 64) C dX12_pushes_74 (by decide) ?_
                obtain ⟨u35, e34, hf1⟩ := ob hf1
                refine r_idiv C dX12_pushes_76 (nz_k e34) ?_
                refine r_iadd C dX12_pushes_77 ?_
                refine r_dup2 C dX12_pushes_78 rfl rfl ?_
                obtain ⟨t36, e37, hf1⟩ := ob hf1
                refine r_ldJ C dX12_pushes_79 e37 ?_
                refine r_lconst (v := 1) C dX12_pushes_80 (by decide) ?_
                refine r_iload_n C dX12_pushes_81 rfl ?_
                refine r_bipush (v := 64) C dX12_pushes_82 (by decide) ?_
                obtain ⟨u39, e38, hf1⟩ := ob hf1
                refine r_irem C dX12_pushes_84 (nz_k e38) ?_
                refine r_lshl C dX12_pushes_85 ?_
                refine r_lor C dX12_pushes_86 ?_
                obtain ⟨h40, e41, hf1⟩ := ob hf1
                refine r_stJ C dX12_pushes_87 e41 ?_
                exact J88 h40 t6 hf1
        refine r_subk [1, 2, 0] (lv' := [(0, .ref v0), (1, .int v1), (2, .int (0 : Int32))]) rfl ?_
        exact L29 wN (0 : Int32) h3 hl29
      · rw [if_neg c4] at hf1
        refine r_aload_n C dX12_pushes_7 rfl ?_
        obtain ⟨t42, e43, hf1⟩ := ob hf1
        refine r_getR C fk_X12_50 rfl dX12_pushes_8 e43 ?_
        refine r_iconst (v := 4) C dX12_pushes_11 (by decide) ?_
        refine r_aload_n C dX12_pushes_12 rfl ?_
        obtain ⟨t44, e45, hf1⟩ := ob hf1
        refine r_getI C fk_X12_241 rfl dX12_pushes_13 e45 ?_
        refine r_imul C dX12_pushes_16 ?_
        refine r_iload_n C dX12_pushes_17 rfl ?_
        refine r_iadd C dX12_pushes_18 ?_
        refine r_lconst (v := 0) C dX12_pushes_19 (by decide) ?_
        obtain ⟨h46, e47, hf1⟩ := ob hf1
        refine r_stJ C dX12_pushes_20 e47 ?_
        obtain ⟨t48, e49, hf1⟩ := ob hf1
        refine r_iinc (lv' := [(2, .int t48), (0, .ref v0), (1, .int v1)]) C dX12_pushes_21 rfl e49 (by decide) rfl ?_
        refine r_goto (tgt := 2) C dX12_pushes_24 (by decide) ?_
        obtain rfl := so hf1
        refine r_subk [1, 2, 0] (lv' := [(0, .ref v0), (1, .int v1), (2, .int t48)]) rfl ?_
        exact ih2 t48 h46 hk2
  refine r_subk [1, 2, 0] (lv' := [(0, .ref v0), (1, .int v1), (2, .int (0 : Int32))]) rfl ?_
  exact L2 wN (0 : Int32) h hl2
def f_X12_isOpen_b2 (h : aH) (v0 : Nat) (v1 : Int32) : Option ((Int32) ⊕ ((Unit) ⊕ (Unit))) := (gI h 12 v0 26).bind fun t1 => if t1 ≤ v1 then some (.inr (.inr ())) else (gR h 12 v0 24).bind fun t2 => (lI h t2 v1).bind fun t3 => if t3 = (40 : Int32) then some (.inr (.inl ())) else (some (v1 + (1 : Int32))).bind fun t4 => some (.inl t4)
def f_X12_isOpen_l2 (h : aH) (v0 : Nat) (v1 : Int32) : Option ((Unit) ⊕ (Unit)) := whileL wN (fun q : Int32 => f_X12_isOpen_b2 h v0 q) v1
def f_X12_isOpen (h : aH) (v0 : Nat) : Option (Int32) := (f_X12_isOpen_l2 h v0 (0 : Int32)).bind fun e => match e with | .inl _ => some (1 : Int32) | .inr _ => some (0 : Int32)
theorem s_X12_isOpen {h : aH} {v0 : Nat} {out : Int32} (hf0 : f_X12_isOpen h v0 = some out) : EV 0 yX12_isOpen cX12_isOpen 2 (some .boolean) h [.ref v0] (some (.int out)) h 0 0 := by
  refine EV.of (own := RX12) (lv0 := [(0, .ref v0)]) (by decide +kernel) rfl rfl (Nat.le_of_ble_eq_true rfl) ?_
  intro p l e s m args below meth c D cA B Hb C hin
  unfold f_X12_isOpen at hf0
  refine r_iconst (v := 0) C dX12_isOpen_0 (by decide) ?_
  refine r_istore_n (lv' := [(1, .int (0 : Int32)), (0, .ref v0)]) C dX12_isOpen_1 (by decide) rfl rfl ?_
  obtain ⟨y1, hl2, hf0⟩ := ob hf0
  have L2 : ∀ (n : Nat) (t2 : Int32), whileL n (fun q : Int32 => f_X12_isOpen_b2 h v0 q) t2 = some y1 → gW p l e (rmO 0 0 0) s m args below meth c (MQ below (eQ D cA B Hb h (some (.int out))) args s 0 0 (fun q => B ≤ q)) D cA B Hb 2 h 2 [(0, .ref v0), (1, .int t2)] [] 0 0 := by
    intro n
    induction n with
    | zero => intro t2 hz; cases hz
    | succ n ih2 =>
      intro t2 hz
      obtain ⟨x2, hf1, hk2⟩ := wl hz
      replace hf1 : f_X12_isOpen_b2 h v0 t2 = some x2 := hf1
      unfold f_X12_isOpen_b2 at hf1
      refine r_iload_n C dX12_isOpen_2 rfl ?_
      refine r_aload_n C dX12_isOpen_3 rfl ?_
      obtain ⟨t3, e4, hf1⟩ := ob hf1
      refine r_getI C fk_X12_238 rfl dX12_isOpen_4 e4 ?_
      refine r_icmp_ge (tgt := 29) C dX12_isOpen_7 (by decide) (fun c5 => ?_) (fun c5 => ?_)
      · rw [if_pos c5] at hf1
        obtain rfl := so hf1
        obtain rfl := so (show some (.inr () : (Unit) ⊕ (Unit)) = some y1 from hk2)
        dsimp only at hf0
        refine r_iconst (v := 0) C dX12_isOpen_29 (by decide) ?_
        obtain rfl := so hf0
        exact r_zret C dX12_isOpen_30 (Or.inl rfl)
      · rw [if_neg c5] at hf1
        refine r_aload_n C dX12_isOpen_10 rfl ?_
        obtain ⟨t6, e7, hf1⟩ := ob hf1
        refine r_getR C fk_X12_53 rfl dX12_isOpen_11 e7 ?_
        refine r_iload_n C dX12_isOpen_14 rfl ?_
        obtain ⟨t8, e9, hf1⟩ := ob hf1
        refine r_ldI C dX12_isOpen_15 e9 ?_
        refine r_bipush (v := 40) C dX12_isOpen_16 (by decide) ?_
        refine r_icmp_ne (tgt := 23) C dX12_isOpen_18 (by decide) (fun c10 => ?_) (fun c10 => ?_)
        · rw [if_neg c10] at hf1
          obtain ⟨t11, e12, hf1⟩ := ob hf1
          refine r_iinc (lv' := [(1, .int t11), (0, .ref v0)]) C dX12_isOpen_23 rfl e12 (by decide) rfl ?_
          refine r_goto (tgt := 2) C dX12_isOpen_26 (by decide) ?_
          obtain rfl := so hf1
          refine r_subk [1, 0] (lv' := [(0, .ref v0), (1, .int t11)]) rfl ?_
          exact ih2 t11 hk2
        · rw [if_pos c10] at hf1
          obtain rfl := so hf1
          obtain rfl := so (show some (.inl () : (Unit) ⊕ (Unit)) = some y1 from hk2)
          dsimp only at hf0
          refine r_iconst (v := 1) C dX12_isOpen_21 (by decide) ?_
          obtain rfl := so hf0
          exact r_zret C dX12_isOpen_22 (Or.inr rfl)
  refine r_subk [1, 0] (lv' := [(0, .ref v0), (1, .int (0 : Int32))]) rfl ?_
  exact L2 wN (0 : Int32) hl2
def f_X12_aOne_j63 (h : aH) (v0 : Nat) (s0 : Nat) (s1 : Int32) : Option ((aH) ⊕ ((aH) ⊕ (aH))) := (ck h 12 s0).bind fun _ => (f_X12_does h s0 s1).bind fun h1 => (ck h1 12 v0).bind fun _ => (f_X12_ahead h1 v0).bind fun h2 => some (.inl h2)
def f_X12_aOne_j20 (h : aH) (v0 : Nat) : Option ((aH) ⊕ ((aH) ⊕ (aH))) := (gI h 12 v0 27).bind fun t3 => if t3 = (6 : Int32) then some (.inr (.inl h)) else (gI h 12 v0 27).bind fun t4 => (pI h 12 v0 27 (t4 + (1 : Int32))).bind fun h5 => (ck h5 12 v0).bind fun _ => (f_X12_isSign h5 v0 (40 : Int32)).bind fun t6 => if t6 = 0 then f_X12_aOne_j63 h5 v0 v0 (12 : Int32) else f_X12_aOne_j63 h5 v0 v0 (40 : Int32)
def f_X12_aOne_b0 (v0 : Nat) (h : aH) : Option ((aH) ⊕ ((aH) ⊕ (aH))) := (ck h 12 v0).bind fun _ => (f_X12_inWords h v0 1).bind fun t7 => if t7 = (12 : Int32) then f_X12_aOne_j20 h v0 else (ck h 12 v0).bind fun _ => (f_X12_isSign h v0 (40 : Int32)).bind fun t8 => if t8 = 0 then some (.inr (.inr h)) else f_X12_aOne_j20 h v0
def f_X12_aOne_l0 (v0 : Nat) (h : aH) : Option ((aH) ⊕ (aH)) := whileL wN (fun q : aH => f_X12_aOne_b0 v0 q) h
def f_X12_aOne_b126 (v0 : Nat) (h : aH) : Option ((aH) ⊕ (aH)) := (ck h 12 v0).bind fun _ => (f_X12_isDoing h v0 (40 : Int32)).bind fun t24 => if t24 = 0 then (ck h 12 v0).bind fun _ => (f_X12_joins h v0).bind fun h25 => some (.inl h25) else some (.inr h)
def f_X12_aOne_l126 (v0 : Nat) (h : aH) : Option (aH) := whileL wN (fun q : aH => f_X12_aOne_b126 v0 q) h
def f_X12_aOne_b110 (v0 : Nat) (h : aH) : Option ((aH) ⊕ (aH)) := (ck h 12 v0).bind fun _ => (f_X12_isSign h v0 (41 : Int32)).bind fun t22 => if t22 = 0 then some (.inr h) else (ck h 12 v0).bind fun _ => (f_X12_isOpen h v0).bind fun t23 => if t23 = 0 then some (.inr h) else (f_X12_aOne_l126 v0 h).bind fun h26 => (gI h26 12 v0 26).bind fun t27 => (pI h26 12 v0 26 (t27 - (1 : Int32))).bind fun h28 => (gI h28 12 v0 27).bind fun t29 => (pI h28 12 v0 27 (t29 - (1 : Int32))).bind fun h30 => (ck h30 12 v0).bind fun _ => (f_X12_ahead h30 v0).bind fun h31 => (ck h31 12 v0).bind fun _ => (f_X12_turnsRound h31 v0).bind fun h32 => some (.inl h32)
def f_X12_aOne_l110 (v0 : Nat) (h : aH) : Option (aH) := whileL wN (fun q : aH => f_X12_aOne_b110 v0 q) h
def f_X12_aOne (h : aH) (v0 : Nat) : Option (Int32 × aH) := (f_X12_aOne_l0 v0 h).bind fun e => match e with | .inl h9 => (ck h9 12 v0).bind fun _ => bd2 (f_X12_fails h9 v0 (7 : Int32)) fun t10 h11 => (rZ t10).bind fun t12 => some (t12, h11) | .inr h13 => (gR h13 12 v0 0).bind fun t14 => (lI h13 t14 (1601 : Int32)).bind fun t15 => (ck h13 12 v0).bind fun _ => bd2 (f_X12_oldName h13 v0 (176 : Int32) (4 : Int32) t15) fun t16 h17 => if t16 = 0 then some ((0 : Int32), h17) else (gI h17 12 v0 21).bind fun t18 => (ck h17 12 v0).bind fun _ => (f_X12_pushes h17 v0 t18).bind fun h19 => (ck h19 12 v0).bind fun _ => (f_X12_ahead h19 v0).bind fun h20 => (ck h20 12 v0).bind fun _ => (f_X12_turnsRound h20 v0).bind fun h21 => (f_X12_aOne_l110 v0 h21).bind fun h33 => some ((1 : Int32), h33)
theorem s_X12_aOne {h : aH} {v0 : Nat} {out : Int32 × aH} (hf0 : f_X12_aOne h v0 = some out) : EV 11 yX12_aOne cX12_aOne 1 (some .boolean) h [.ref v0] (some (.int out.1)) out.2 0 0 := by
  refine EV.of (own := RX12) (lv0 := [(0, .ref v0)]) (by decide +kernel) rfl rfl (Nat.le_of_ble_eq_true rfl) ?_
  intro p l e s m args below meth c D cA B Hb C hin
  unfold f_X12_aOne at hf0
  obtain ⟨y1, hl0, hf0⟩ := ob hf0
  have L0 : ∀ (n : Nat) (h2 : aH), whileL n (fun q : aH => f_X12_aOne_b0 v0 q) h2 = some y1 → gW p l e (rmO 11 0 0) s m args below meth c (MQ below (eQ D cA B Hb out.2 (some (.int out.1))) args s 0 0 (fun q => B ≤ q)) D cA B Hb 1 h2 0 [(0, .ref v0)] [] 0 0 := by
    intro n
    induction n with
    | zero => intro h2 hz; cases hz
    | succ n ih0 =>
      intro h2 hz
      obtain ⟨x0, hf1, hk0⟩ := wl hz
      replace hf1 : f_X12_aOne_b0 v0 h2 = some x0 := hf1
      unfold f_X12_aOne_b0 at hf1
      have J63 : ∀ (h3 : aH) (t4 : Nat) (t5 : Int32), f_X12_aOne_j63 h3 v0 t4 t5 = some x0 → gW p l e (rmO 11 0 0) s m args below meth c (MQ below (eQ D cA B Hb out.2 (some (.int out.1))) args s 0 0 (fun q => B ≤ q)) D cA B Hb 1 h3 63 [(0, .ref v0)] [.int t5, .ref t4] 0 0 := by
        intro h3 t4 t5 hf1
        unfold f_X12_aOne_j63 at hf1
        obtain ⟨u7, e6, hf1⟩ := ob hf1
        obtain ⟨h8, e9, hf1⟩ := ob hf1
        refine r_cV (ci := 12) (rest := []) (st2 := []) C (s_X12_does e9) mk_X12_does rfl (ck_k e6) (by decide) im_X12_does sl_X12_does lk_X12_250 rfl rfl rfl dX12_aOne_63 (Nat.le_of_ble_eq_true rfl) ⟨Nat.le_of_ble_eq_true rfl, Nat.le_of_ble_eq_true rfl⟩ ⟨Nat.le_of_ble_eq_true rfl, Nat.le_of_ble_eq_true rfl⟩ ?_
        refine r_aload_n C dX12_aOne_66 rfl ?_
        obtain ⟨u11, e10, hf1⟩ := ob hf1
        obtain ⟨h12, e13, hf1⟩ := ob hf1
        refine r_cV (ci := 12) (rest := []) (st2 := []) C (s_X12_ahead e13) mk_X12_ahead rfl (ck_k e10) (by decide) im_X12_ahead sl_X12_ahead lk_X12_180 rfl rfl rfl dX12_aOne_67 (Nat.le_of_ble_eq_true rfl) ⟨Nat.le_of_ble_eq_true rfl, Nat.le_of_ble_eq_true rfl⟩ ⟨Nat.le_of_ble_eq_true rfl, Nat.le_of_ble_eq_true rfl⟩ ?_
        refine r_goto (tgt := 0) C dX12_aOne_70 (by decide) ?_
        obtain rfl := so hf1
        exact ih0 h12 hk0
      have J20 : ∀ (h14 : aH), f_X12_aOne_j20 h14 v0 = some x0 → gW p l e (rmO 11 0 0) s m args below meth c (MQ below (eQ D cA B Hb out.2 (some (.int out.1))) args s 0 0 (fun q => B ≤ q)) D cA B Hb 1 h14 20 [(0, .ref v0)] [] 0 0 := by
        intro h14 hf1
        unfold f_X12_aOne_j20 at hf1
        refine r_aload_n C dX12_aOne_20 rfl ?_
        obtain ⟨t15, e16, hf1⟩ := ob hf1
        refine r_getI C fk_X12_247 rfl dX12_aOne_21 e16 ?_
        refine r_bipush (v := 6) C dX12_aOne_24 (by decide) ?_
        refine r_icmp_ne (tgt := 36) C dX12_aOne_26 (by decide) (fun c17 => ?_) (fun c17 => ?_)
        · rw [if_neg c17] at hf1
          refine r_aload_n C dX12_aOne_36 rfl ?_
          refine r_dup C dX12_aOne_37 rfl ?_
          obtain ⟨t18, e19, hf1⟩ := ob hf1
          refine r_getI C fk_X12_247 rfl dX12_aOne_38 e19 ?_
          refine r_iconst (v := 1) C dX12_aOne_41 (by decide) ?_
          refine r_iadd C dX12_aOne_42 ?_
          obtain ⟨h20, e21, hf1⟩ := ob hf1
          refine r_putI C fk_X12_247 dX12_aOne_43 e21 ?_
          refine r_aload_n C dX12_aOne_46 rfl ?_
          refine r_aload_n C dX12_aOne_47 rfl ?_
          refine r_bipush (v := 40) C dX12_aOne_48 (by decide) ?_
          obtain ⟨u23, e22, hf1⟩ := ob hf1
          obtain ⟨t24, e25, hf1⟩ := ob hf1
          refine r_cV (ci := 12) (rest := [.ref v0]) (st2 := [.int t24, .ref v0]) C (s_X12_isSign e25) mk_X12_isSign rfl (ck_k e22) (by decide) im_X12_isSign sl_X12_isSign lk_X12_183 rfl rfl rfl dX12_aOne_50 (Nat.le_of_ble_eq_true rfl) ⟨Nat.le_of_ble_eq_true rfl, Nat.le_of_ble_eq_true rfl⟩ ⟨Nat.le_of_ble_eq_true rfl, Nat.le_of_ble_eq_true rfl⟩ ?_
          refine r_ifeq (tgt := 61) C dX12_aOne_53 (by decide) (fun c26 => ?_) (fun c26 => ?_)
          · rw [if_pos c26] at hf1
            refine r_bipush (v := 12) C dX12_aOne_61 (by decide) ?_
            exact J63 h20 v0 (12 : Int32) hf1
          · rw [if_neg c26] at hf1
            refine r_bipush (v := 40) C dX12_aOne_56 (by decide) ?_
            refine r_goto (tgt := 63) C dX12_aOne_58 (by decide) ?_
            exact J63 h20 v0 (40 : Int32) hf1
        · rw [if_pos c17] at hf1
          obtain rfl := so hf1
          obtain rfl := so (show some (.inl h14 : (aH) ⊕ (aH)) = some y1 from hk0)
          dsimp only at hf0
          refine r_aload_n C dX12_aOne_29 rfl ?_
          refine r_bipush (v := 7) C dX12_aOne_30 (by decide) ?_
          obtain ⟨u28, e27, hf0⟩ := ob hf0
          obtain ⟨t29, h30, e31, hf0⟩ := ob2 hf0
          refine r_cV (ci := 12) (rest := []) (st2 := [.int t29]) C (s_X12_fails e31) mk_X12_fails rfl (ck_k e27) (by decide) im_X12_fails sl_X12_fails lk_X12_186 rfl rfl rfl dX12_aOne_32 (Nat.le_of_ble_eq_true rfl) ⟨Nat.le_of_ble_eq_true rfl, Nat.le_of_ble_eq_true rfl⟩ ⟨Nat.le_of_ble_eq_true rfl, Nat.le_of_ble_eq_true rfl⟩ ?_
          obtain ⟨t32, e33, hf0⟩ := ob hf0
          obtain ⟨rfl, e33z⟩ := rZ_k e33
          obtain rfl := so hf0
          exact r_zret C dX12_aOne_35 e33z
      refine r_aload_n C dX12_aOne_0 rfl ?_
      refine r_lds1 C dX12_aOne_1 ?_
      obtain ⟨u35, e34, hf1⟩ := ob hf1
      obtain ⟨t36, e37, hf1⟩ := ob hf1
      refine r_cV (ci := 12) (rest := []) (st2 := [.int t36]) C (s_X12_inWords e37) mk_X12_inWords rfl (ck_k e34) (by decide) im_X12_inWords sl_X12_inWords lk_X12_189 rfl rfl rfl dX12_aOne_3 (Nat.le_of_ble_eq_true rfl) ⟨Nat.le_of_ble_eq_true rfl, Nat.le_of_ble_eq_true rfl⟩ ⟨Nat.le_of_ble_eq_true rfl, Nat.le_of_ble_eq_true rfl⟩ ?_
      refine r_bipush (v := 12) C dX12_aOne_6 (by decide) ?_
      refine r_icmp_eq (tgt := 20) C dX12_aOne_8 (by decide) (fun c38 => ?_) (fun c38 => ?_)
      · rw [if_pos c38] at hf1
        exact J20 h2 hf1
      · rw [if_neg c38] at hf1
        refine r_aload_n C dX12_aOne_11 rfl ?_
        refine r_bipush (v := 40) C dX12_aOne_12 (by decide) ?_
        obtain ⟨u40, e39, hf1⟩ := ob hf1
        obtain ⟨t41, e42, hf1⟩ := ob hf1
        refine r_cV (ci := 12) (rest := []) (st2 := [.int t41]) C (s_X12_isSign e42) mk_X12_isSign rfl (ck_k e39) (by decide) im_X12_isSign sl_X12_isSign lk_X12_183 rfl rfl rfl dX12_aOne_14 (Nat.le_of_ble_eq_true rfl) ⟨Nat.le_of_ble_eq_true rfl, Nat.le_of_ble_eq_true rfl⟩ ⟨Nat.le_of_ble_eq_true rfl, Nat.le_of_ble_eq_true rfl⟩ ?_
        refine r_ifeq (tgt := 73) C dX12_aOne_17 (by decide) (fun c43 => ?_) (fun c43 => ?_)
        · rw [if_pos c43] at hf1
          obtain rfl := so hf1
          obtain rfl := so (show some (.inr h2 : (aH) ⊕ (aH)) = some y1 from hk0)
          dsimp only at hf0
          refine r_aload_n C dX12_aOne_73 rfl ?_
          refine r_sipush (v := 176) C dX12_aOne_74 (by decide) ?_
          refine r_iconst (v := 4) C dX12_aOne_77 (by decide) ?_
          refine r_aload_n C dX12_aOne_78 rfl ?_
          obtain ⟨t44, e45, hf0⟩ := ob hf0
          refine r_getR C fk_X12_7 rfl dX12_aOne_79 e45 ?_
          refine r_sipush (v := 1601) C dX12_aOne_82 (by decide) ?_
          obtain ⟨t46, e47, hf0⟩ := ob hf0
          refine r_ldI C dX12_aOne_85 e47 ?_
          obtain ⟨u49, e48, hf0⟩ := ob hf0
          obtain ⟨t50, h51, e52, hf0⟩ := ob2 hf0
          refine r_cV (ci := 12) (rest := []) (st2 := [.int t50]) C (s_X12_oldName e52) mk_X12_oldName rfl (ck_k e48) (by decide) im_X12_oldName sl_X12_oldName lk_X12_231 rfl rfl rfl dX12_aOne_86 (Nat.le_of_ble_eq_true rfl) ⟨Nat.le_of_ble_eq_true rfl, Nat.le_of_ble_eq_true rfl⟩ ⟨Nat.le_of_ble_eq_true rfl, Nat.le_of_ble_eq_true rfl⟩ ?_
          refine r_ifne (tgt := 94) C dX12_aOne_89 (by decide) (fun c53 => ?_) (fun c53 => ?_)
          · rw [if_neg c53] at hf0
            refine r_aload_n C dX12_aOne_94 rfl ?_
            refine r_aload_n C dX12_aOne_95 rfl ?_
            obtain ⟨t54, e55, hf0⟩ := ob hf0
            refine r_getI C fk_X12_216 rfl dX12_aOne_96 e55 ?_
            obtain ⟨u57, e56, hf0⟩ := ob hf0
            obtain ⟨h58, e59, hf0⟩ := ob hf0
            refine r_cV (ci := 12) (rest := []) (st2 := []) C (s_X12_pushes e59) mk_X12_pushes rfl (ck_k e56) (by decide) im_X12_pushes sl_X12_pushes lk_X12_253 rfl rfl rfl dX12_aOne_99 (Nat.le_of_ble_eq_true rfl) ⟨Nat.le_of_ble_eq_true rfl, Nat.le_of_ble_eq_true rfl⟩ ⟨Nat.le_of_ble_eq_true rfl, Nat.le_of_ble_eq_true rfl⟩ ?_
            refine r_aload_n C dX12_aOne_102 rfl ?_
            obtain ⟨u61, e60, hf0⟩ := ob hf0
            obtain ⟨h62, e63, hf0⟩ := ob hf0
            refine r_cV (ci := 12) (rest := []) (st2 := []) C (s_X12_ahead e63) mk_X12_ahead rfl (ck_k e60) (by decide) im_X12_ahead sl_X12_ahead lk_X12_180 rfl rfl rfl dX12_aOne_103 (Nat.le_of_ble_eq_true rfl) ⟨Nat.le_of_ble_eq_true rfl, Nat.le_of_ble_eq_true rfl⟩ ⟨Nat.le_of_ble_eq_true rfl, Nat.le_of_ble_eq_true rfl⟩ ?_
            refine r_aload_n C dX12_aOne_106 rfl ?_
            obtain ⟨u65, e64, hf0⟩ := ob hf0
            obtain ⟨h66, e67, hf0⟩ := ob hf0
            refine r_cV (ci := 12) (rest := []) (st2 := []) C (s_X12_turnsRound e67) mk_X12_turnsRound rfl (ck_k e64) (by decide) im_X12_turnsRound sl_X12_turnsRound lk_X12_256 rfl rfl rfl dX12_aOne_107 (Nat.le_of_ble_eq_true rfl) ⟨Nat.le_of_ble_eq_true rfl, Nat.le_of_ble_eq_true rfl⟩ ⟨Nat.le_of_ble_eq_true rfl, Nat.le_of_ble_eq_true rfl⟩ ?_
            obtain ⟨y68, hl110, hf0⟩ := ob hf0
            have L110 : ∀ (n : Nat) (h69 : aH), whileL n (fun q : aH => f_X12_aOne_b110 v0 q) h69 = some y68 → gW p l e (rmO 11 0 0) s m args below meth c (MQ below (eQ D cA B Hb out.2 (some (.int out.1))) args s 0 0 (fun q => B ≤ q)) D cA B Hb 1 h69 110 [(0, .ref v0)] [] 0 0 := by
              intro n
              induction n with
              | zero => intro h69 hz; cases hz
              | succ n ih110 =>
                intro h69 hz
                obtain ⟨x110, hf1, hk110⟩ := wl hz
                replace hf1 : f_X12_aOne_b110 v0 h69 = some x110 := hf1
                unfold f_X12_aOne_b110 at hf1
                refine r_aload_n C dX12_aOne_110 rfl ?_
                refine r_bipush (v := 41) C dX12_aOne_111 (by decide) ?_
                obtain ⟨u71, e70, hf1⟩ := ob hf1
                obtain ⟨t72, e73, hf1⟩ := ob hf1
                refine r_cV (ci := 12) (rest := []) (st2 := [.int t72]) C (s_X12_isSign e73) mk_X12_isSign rfl (ck_k e70) (by decide) im_X12_isSign sl_X12_isSign lk_X12_183 rfl rfl rfl dX12_aOne_113 (Nat.le_of_ble_eq_true rfl) ⟨Nat.le_of_ble_eq_true rfl, Nat.le_of_ble_eq_true rfl⟩ ⟨Nat.le_of_ble_eq_true rfl, Nat.le_of_ble_eq_true rfl⟩ ?_
                refine r_ifeq (tgt := 173) C dX12_aOne_116 (by decide) (fun c74 => ?_) (fun c74 => ?_)
                · rw [if_pos c74] at hf1
                  obtain rfl := so hf1
                  obtain rfl := so (show some h69 = some y68 from hk110)
                  refine r_iconst (v := 1) C dX12_aOne_173 (by decide) ?_
                  obtain rfl := so hf0
                  exact r_zret C dX12_aOne_174 (Or.inr rfl)
                · rw [if_neg c74] at hf1
                  refine r_aload_n C dX12_aOne_119 rfl ?_
                  obtain ⟨u76, e75, hf1⟩ := ob hf1
                  obtain ⟨t77, e78, hf1⟩ := ob hf1
                  refine r_cV (ci := 12) (rest := []) (st2 := [.int t77]) C (s_X12_isOpen e78) mk_X12_isOpen rfl (ck_k e75) (by decide) im_X12_isOpen sl_X12_isOpen lk_X12_259 rfl rfl rfl dX12_aOne_120 (Nat.le_of_ble_eq_true rfl) ⟨Nat.le_of_ble_eq_true rfl, Nat.le_of_ble_eq_true rfl⟩ ⟨Nat.le_of_ble_eq_true rfl, Nat.le_of_ble_eq_true rfl⟩ ?_
                  refine r_ifeq (tgt := 173) C dX12_aOne_123 (by decide) (fun c79 => ?_) (fun c79 => ?_)
                  · rw [if_pos c79] at hf1
                    obtain rfl := so hf1
                    obtain rfl := so (show some h69 = some y68 from hk110)
                    refine r_iconst (v := 1) C dX12_aOne_173 (by decide) ?_
                    obtain rfl := so hf0
                    exact r_zret C dX12_aOne_174 (Or.inr rfl)
                  · rw [if_neg c79] at hf1
                    obtain ⟨y80, hl126, hf1⟩ := ob hf1
                    have L126 : ∀ (n : Nat) (h81 : aH), whileL n (fun q : aH => f_X12_aOne_b126 v0 q) h81 = some y80 → gW p l e (rmO 11 0 0) s m args below meth c (MQ below (eQ D cA B Hb out.2 (some (.int out.1))) args s 0 0 (fun q => B ≤ q)) D cA B Hb 1 h81 126 [(0, .ref v0)] [] 0 0 := by
                      intro n
                      induction n with
                      | zero => intro h81 hz; cases hz
                      | succ n ih126 =>
                        intro h81 hz
                        obtain ⟨x126, hf2, hk126⟩ := wl hz
                        replace hf2 : f_X12_aOne_b126 v0 h81 = some x126 := hf2
                        unfold f_X12_aOne_b126 at hf2
                        refine r_aload_n C dX12_aOne_126 rfl ?_
                        refine r_bipush (v := 40) C dX12_aOne_127 (by decide) ?_
                        obtain ⟨u83, e82, hf2⟩ := ob hf2
                        obtain ⟨t84, e85, hf2⟩ := ob hf2
                        refine r_cV (ci := 12) (rest := []) (st2 := [.int t84]) C (s_X12_isDoing e85) mk_X12_isDoing rfl (ck_k e82) (by decide) im_X12_isDoing sl_X12_isDoing lk_X12_244 rfl rfl rfl dX12_aOne_129 (Nat.le_of_ble_eq_true rfl) ⟨Nat.le_of_ble_eq_true rfl, Nat.le_of_ble_eq_true rfl⟩ ⟨Nat.le_of_ble_eq_true rfl, Nat.le_of_ble_eq_true rfl⟩ ?_
                        refine r_ifne (tgt := 142) C dX12_aOne_132 (by decide) (fun c86 => ?_) (fun c86 => ?_)
                        · rw [if_neg c86] at hf2
                          obtain rfl := so hf2
                          obtain rfl := so (show some h81 = some y80 from hk126)
                          refine r_aload_n C dX12_aOne_142 rfl ?_
                          refine r_dup C dX12_aOne_143 rfl ?_
                          obtain ⟨t87, e88, hf1⟩ := ob hf1
                          refine r_getI C fk_X12_238 rfl dX12_aOne_144 e88 ?_
                          refine r_iconst (v := 1) C dX12_aOne_147 (by decide) ?_
                          refine r_isub C dX12_aOne_148 ?_
                          obtain ⟨h89, e90, hf1⟩ := ob hf1
                          refine r_putI C fk_X12_238 dX12_aOne_149 e90 ?_
                          refine r_aload_n C dX12_aOne_152 rfl ?_
                          refine r_dup C dX12_aOne_153 rfl ?_
                          obtain ⟨t91, e92, hf1⟩ := ob hf1
                          refine r_getI C fk_X12_247 rfl dX12_aOne_154 e92 ?_
                          refine r_iconst (v := 1) C dX12_aOne_157 (by decide) ?_
                          refine r_isub C dX12_aOne_158 ?_
                          obtain ⟨h93, e94, hf1⟩ := ob hf1
                          refine r_putI C fk_X12_247 dX12_aOne_159 e94 ?_
                          refine r_aload_n C dX12_aOne_162 rfl ?_
                          obtain ⟨u96, e95, hf1⟩ := ob hf1
                          obtain ⟨h97, e98, hf1⟩ := ob hf1
                          refine r_cV (ci := 12) (rest := []) (st2 := []) C (s_X12_ahead e98) mk_X12_ahead rfl (ck_k e95) (by decide) im_X12_ahead sl_X12_ahead lk_X12_180 rfl rfl rfl dX12_aOne_163 (Nat.le_of_ble_eq_true rfl) ⟨Nat.le_of_ble_eq_true rfl, Nat.le_of_ble_eq_true rfl⟩ ⟨Nat.le_of_ble_eq_true rfl, Nat.le_of_ble_eq_true rfl⟩ ?_
                          refine r_aload_n C dX12_aOne_166 rfl ?_
                          obtain ⟨u100, e99, hf1⟩ := ob hf1
                          obtain ⟨h101, e102, hf1⟩ := ob hf1
                          refine r_cV (ci := 12) (rest := []) (st2 := []) C (s_X12_turnsRound e102) mk_X12_turnsRound rfl (ck_k e99) (by decide) im_X12_turnsRound sl_X12_turnsRound lk_X12_256 rfl rfl rfl dX12_aOne_167 (Nat.le_of_ble_eq_true rfl) ⟨Nat.le_of_ble_eq_true rfl, Nat.le_of_ble_eq_true rfl⟩ ⟨Nat.le_of_ble_eq_true rfl, Nat.le_of_ble_eq_true rfl⟩ ?_
                          refine r_goto (tgt := 110) C dX12_aOne_170 (by decide) ?_
                          obtain rfl := so hf1
                          exact ih110 h101 hk110
                        · rw [if_pos c86] at hf2
                          refine r_aload_n C dX12_aOne_135 rfl ?_
                          obtain ⟨u104, e103, hf2⟩ := ob hf2
                          obtain ⟨h105, e106, hf2⟩ := ob hf2
                          refine r_cV (ci := 12) (rest := []) (st2 := []) C (s_X12_joins e106) mk_X12_joins rfl (ck_k e103) (by decide) im_X12_joins sl_X12_joins lk_X12_262 rfl rfl rfl dX12_aOne_136 (Nat.le_of_ble_eq_true rfl) ⟨Nat.le_of_ble_eq_true rfl, Nat.le_of_ble_eq_true rfl⟩ ⟨Nat.le_of_ble_eq_true rfl, Nat.le_of_ble_eq_true rfl⟩ ?_
                          refine r_goto (tgt := 126) C dX12_aOne_139 (by decide) ?_
                          obtain rfl := so hf2
                          exact ih126 h105 hk126
                    exact L126 wN h69 hl126
            exact L110 wN h66 hl110
          · rw [if_pos c53] at hf0
            refine r_iconst (v := 0) C dX12_aOne_92 (by decide) ?_
            obtain rfl := so hf0
            exact r_zret C dX12_aOne_93 (Or.inl rfl)
        · rw [if_neg c43] at hf1
          exact J20 h2 hf1
  exact L0 wN h hl0
def f_X12_conditions_j74 (h : aH) (v0 : Nat) (v1 : Int32) : Option ((Int32 × aH) ⊕ ((aH) ⊕ (aH))) := (ck h 12 v0).bind fun _ => (f_X12_does h v0 v1).bind fun h7 => (ck h7 12 v0).bind fun _ => (f_X12_ahead h7 v0).bind fun h8 => (ck h8 12 v0).bind fun _ => bd2 (f_X12_aOne h8 v0) fun t9 h10 => if t9 = 0 then some (.inr (.inl h10)) else (ck h10 12 v0).bind fun _ => (f_X12_inWords h10 v0 1).bind fun t11 => some (.inl (t11, h10))
def f_X12_conditions_j67 (h : aH) (v0 : Nat) (v1 : Int32) : Option ((aH) ⊕ (aH)) := (ck h 12 v0).bind fun _ => (f_X12_joins h v0).bind fun h12 => some (.inl h12)
def f_X12_conditions_b43 (v0 : Nat) (v1 : Int32) (h : aH) : Option ((aH) ⊕ (aH)) := (ck h 12 v0).bind fun _ => (f_X12_isDoing h v0 (11 : Int32)).bind fun t13 => if t13 = 0 then if v1 = (10 : Int32) then (ck h 12 v0).bind fun _ => (f_X12_isDoing h v0 (10 : Int32)).bind fun t14 => if t14 = 0 then some (.inr h) else f_X12_conditions_j67 h v0 v1 else some (.inr h) else f_X12_conditions_j67 h v0 v1
def f_X12_conditions_l43 (v0 : Nat) (v1 : Int32) (h : aH) : Option (aH) := whileL wN (fun q : aH => f_X12_conditions_b43 v0 v1 q) h
def f_X12_conditions_j43 (h : aH) (v0 : Nat) (v1 : Int32) : Option ((Int32 × aH) ⊕ ((aH) ⊕ (aH))) := (f_X12_conditions_l43 v0 v1 h).bind fun h15 => f_X12_conditions_j74 h15 v0 v1
def f_X12_conditions_b31 (v0 : Nat) (v1 : Int32) (h : aH) : Option ((Int32 × aH) ⊕ ((aH) ⊕ (aH))) := if v1 = (10 : Int32) then f_X12_conditions_j43 h v0 v1 else if v1 = (11 : Int32) then f_X12_conditions_j43 h v0 v1 else some (.inr (.inr h))
def f_X12_conditions_l31 (v0 : Nat) (v1 : Int32) (h : aH) : Option ((aH) ⊕ (aH)) := whileL wN (fun q : Int32 × aH => f_X12_conditions_b31 v0 q.1 q.2) (v1, h)
def f_X12_conditions_b115 (v0 : Nat) (h : aH) : Option ((aH) ⊕ (aH)) := (gI h 12 v0 26).bind fun t19 => if t19 ≤ 0 then some (.inr h) else (ck h 12 v0).bind fun _ => (f_X12_joins h v0).bind fun h20 => some (.inl h20)
def f_X12_conditions_l115 (v0 : Nat) (h : aH) : Option (aH) := whileL wN (fun q : aH => f_X12_conditions_b115 v0 q) h
def f_X12_conditions (h : aH) (v0 : Nat) : Option (Int32 × aH) := (pI h 12 v0 25 (0 : Int32)).bind fun h1 => (pI h1 12 v0 26 (0 : Int32)).bind fun h2 => (pI h2 12 v0 27 (0 : Int32)).bind fun h3 => (ck h3 12 v0).bind fun _ => bd2 (f_X12_aOne h3 v0) fun t4 h5 => if t4 = 0 then some ((0 : Int32), h5) else (ck h5 12 v0).bind fun _ => (f_X12_inWords h5 v0 1).bind fun t6 => (f_X12_conditions_l31 v0 t6 h5).bind fun e => match e with | .inl h16 => some ((0 : Int32), h16) | .inr h17 => (ck h17 12 v0).bind fun _ => (f_X12_isOpen h17 v0).bind fun t18 => if t18 = 0 then (f_X12_conditions_l115 v0 h17).bind fun h21 => some ((1 : Int32), h21) else (ck h17 12 v0).bind fun _ => bd2 (f_X12_fails h17 v0 (2 : Int32)) fun t22 h23 => (rZ t22).bind fun t24 => some (t24, h23)
theorem s_X12_conditions {h : aH} {v0 : Nat} {out : Int32 × aH} (hf0 : f_X12_conditions h v0 = some out) : EV 12 yX12_conditions cX12_conditions 2 (some .boolean) h [.ref v0] (some (.int out.1)) out.2 0 0 := by
  refine EV.of (own := RX12) (lv0 := [(0, .ref v0)]) (by decide +kernel) rfl rfl (Nat.le_of_ble_eq_true rfl) ?_
  intro p l e s m args below meth c D cA B Hb C hin
  unfold f_X12_conditions at hf0
  refine r_aload_n C dX12_conditions_0 rfl ?_
  refine r_iconst (v := 0) C dX12_conditions_1 (by decide) ?_
  obtain ⟨h1, e2, hf0⟩ := ob hf0
  refine r_putI C fk_X12_241 dX12_conditions_2 e2 ?_
  refine r_aload_n C dX12_conditions_5 rfl ?_
  refine r_iconst (v := 0) C dX12_conditions_6 (by decide) ?_
  obtain ⟨h3, e4, hf0⟩ := ob hf0
  refine r_putI C fk_X12_238 dX12_conditions_7 e4 ?_
  refine r_aload_n C dX12_conditions_10 rfl ?_
  refine r_iconst (v := 0) C dX12_conditions_11 (by decide) ?_
  obtain ⟨h5, e6, hf0⟩ := ob hf0
  refine r_putI C fk_X12_247 dX12_conditions_12 e6 ?_
  refine r_aload_n C dX12_conditions_15 rfl ?_
  obtain ⟨u8, e7, hf0⟩ := ob hf0
  obtain ⟨t9, h10, e11, hf0⟩ := ob2 hf0
  refine r_cV (ci := 12) (rest := []) (st2 := [.int t9]) C (s_X12_aOne e11) mk_X12_aOne rfl (ck_k e7) (by decide) im_X12_aOne sl_X12_aOne lk_X12_265 rfl rfl rfl dX12_conditions_16 (Nat.le_of_ble_eq_true rfl) ⟨Nat.le_of_ble_eq_true rfl, Nat.le_of_ble_eq_true rfl⟩ ⟨Nat.le_of_ble_eq_true rfl, Nat.le_of_ble_eq_true rfl⟩ ?_
  refine r_ifne (tgt := 24) C dX12_conditions_19 (by decide) (fun c12 => ?_) (fun c12 => ?_)
  · rw [if_neg c12] at hf0
    refine r_aload_n C dX12_conditions_24 rfl ?_
    refine r_lds1 C dX12_conditions_25 ?_
    obtain ⟨u14, e13, hf0⟩ := ob hf0
    obtain ⟨t15, e16, hf0⟩ := ob hf0
    refine r_cV (ci := 12) (rest := []) (st2 := [.int t15]) C (s_X12_inWords e16) mk_X12_inWords rfl (ck_k e13) (by decide) im_X12_inWords sl_X12_inWords lk_X12_189 rfl rfl rfl dX12_conditions_27 (Nat.le_of_ble_eq_true rfl) ⟨Nat.le_of_ble_eq_true rfl, Nat.le_of_ble_eq_true rfl⟩ ⟨Nat.le_of_ble_eq_true rfl, Nat.le_of_ble_eq_true rfl⟩ ?_
    refine r_istore_n (lv' := [(1, .int t15), (0, .ref v0)]) C dX12_conditions_30 (by decide) rfl rfl ?_
    obtain ⟨y17, hl31, hf0⟩ := ob hf0
    have L31 : ∀ (n : Nat) (t18 : Int32) (h19 : aH), whileL n (fun q : Int32 × aH => f_X12_conditions_b31 v0 q.1 q.2) (t18, h19) = some y17 → gW p l e (rmO 12 0 0) s m args below meth c (MQ below (eQ D cA B Hb out.2 (some (.int out.1))) args s 0 0 (fun q => B ≤ q)) D cA B Hb 2 h19 31 [(0, .ref v0), (1, .int t18)] [] 0 0 := by
      intro n
      induction n with
      | zero => intro t18 h19 hz; cases hz
      | succ n ih31 =>
        intro t18 h19 hz
        obtain ⟨x31, hf1, hk31⟩ := wl hz
        replace hf1 : f_X12_conditions_b31 v0 t18 h19 = some x31 := hf1
        unfold f_X12_conditions_b31 at hf1
        have J74 : ∀ (h20 : aH) (t21 : Int32), f_X12_conditions_j74 h20 v0 t21 = some x31 → gW p l e (rmO 12 0 0) s m args below meth c (MQ below (eQ D cA B Hb out.2 (some (.int out.1))) args s 0 0 (fun q => B ≤ q)) D cA B Hb 2 h20 74 [(0, .ref v0), (1, .int t21)] [] 0 0 := by
          intro h20 t21 hf1
          unfold f_X12_conditions_j74 at hf1
          refine r_aload_n C dX12_conditions_74 rfl ?_
          refine r_iload_n C dX12_conditions_75 rfl ?_
          obtain ⟨u23, e22, hf1⟩ := ob hf1
          obtain ⟨h24, e25, hf1⟩ := ob hf1
          refine r_cV (ci := 12) (rest := []) (st2 := []) C (s_X12_does e25) mk_X12_does rfl (ck_k e22) (by decide) im_X12_does sl_X12_does lk_X12_250 rfl rfl rfl dX12_conditions_76 (Nat.le_of_ble_eq_true rfl) ⟨Nat.le_of_ble_eq_true rfl, Nat.le_of_ble_eq_true rfl⟩ ⟨Nat.le_of_ble_eq_true rfl, Nat.le_of_ble_eq_true rfl⟩ ?_
          refine r_aload_n C dX12_conditions_79 rfl ?_
          obtain ⟨u27, e26, hf1⟩ := ob hf1
          obtain ⟨h28, e29, hf1⟩ := ob hf1
          refine r_cV (ci := 12) (rest := []) (st2 := []) C (s_X12_ahead e29) mk_X12_ahead rfl (ck_k e26) (by decide) im_X12_ahead sl_X12_ahead lk_X12_180 rfl rfl rfl dX12_conditions_80 (Nat.le_of_ble_eq_true rfl) ⟨Nat.le_of_ble_eq_true rfl, Nat.le_of_ble_eq_true rfl⟩ ⟨Nat.le_of_ble_eq_true rfl, Nat.le_of_ble_eq_true rfl⟩ ?_
          refine r_aload_n C dX12_conditions_83 rfl ?_
          obtain ⟨u31, e30, hf1⟩ := ob hf1
          obtain ⟨t32, h33, e34, hf1⟩ := ob2 hf1
          refine r_cV (ci := 12) (rest := []) (st2 := [.int t32]) C (s_X12_aOne e34) mk_X12_aOne rfl (ck_k e30) (by decide) im_X12_aOne sl_X12_aOne lk_X12_265 rfl rfl rfl dX12_conditions_84 (Nat.le_of_ble_eq_true rfl) ⟨Nat.le_of_ble_eq_true rfl, Nat.le_of_ble_eq_true rfl⟩ ⟨Nat.le_of_ble_eq_true rfl, Nat.le_of_ble_eq_true rfl⟩ ?_
          refine r_ifne (tgt := 92) C dX12_conditions_87 (by decide) (fun c35 => ?_) (fun c35 => ?_)
          · rw [if_neg c35] at hf1
            refine r_aload_n C dX12_conditions_92 rfl ?_
            refine r_lds1 C dX12_conditions_93 ?_
            obtain ⟨u37, e36, hf1⟩ := ob hf1
            obtain ⟨t38, e39, hf1⟩ := ob hf1
            refine r_cV (ci := 12) (rest := []) (st2 := [.int t38]) C (s_X12_inWords e39) mk_X12_inWords rfl (ck_k e36) (by decide) im_X12_inWords sl_X12_inWords lk_X12_189 rfl rfl rfl dX12_conditions_95 (Nat.le_of_ble_eq_true rfl) ⟨Nat.le_of_ble_eq_true rfl, Nat.le_of_ble_eq_true rfl⟩ ⟨Nat.le_of_ble_eq_true rfl, Nat.le_of_ble_eq_true rfl⟩ ?_
            refine r_istore_n (lv' := [(1, .int t38), (0, .ref v0)]) C dX12_conditions_98 (by decide) rfl rfl ?_
            refine r_goto (tgt := 31) C dX12_conditions_99 (by decide) ?_
            obtain rfl := so hf1
            refine r_subk [1, 0] (lv' := [(0, .ref v0), (1, .int t38)]) rfl ?_
            exact ih31 t38 h33 hk31
          · rw [if_pos c35] at hf1
            obtain rfl := so hf1
            obtain rfl := so (show some (.inl h33 : (aH) ⊕ (aH)) = some y17 from hk31)
            dsimp only at hf0
            refine r_iconst (v := 0) C dX12_conditions_90 (by decide) ?_
            obtain rfl := so hf0
            exact r_zret C dX12_conditions_91 (Or.inl rfl)
        have J43 : ∀ (h40 : aH) (t41 : Int32), f_X12_conditions_j43 h40 v0 t41 = some x31 → gW p l e (rmO 12 0 0) s m args below meth c (MQ below (eQ D cA B Hb out.2 (some (.int out.1))) args s 0 0 (fun q => B ≤ q)) D cA B Hb 2 h40 43 [(0, .ref v0), (1, .int t41)] [] 0 0 := by
          intro h40 t41 hf1
          unfold f_X12_conditions_j43 at hf1
          obtain ⟨y42, hl43, hf1⟩ := ob hf1
          have L43 : ∀ (n : Nat) (h43 : aH), whileL n (fun q : aH => f_X12_conditions_b43 v0 t41 q) h43 = some y42 → gW p l e (rmO 12 0 0) s m args below meth c (MQ below (eQ D cA B Hb out.2 (some (.int out.1))) args s 0 0 (fun q => B ≤ q)) D cA B Hb 2 h43 43 [(0, .ref v0), (1, .int t41)] [] 0 0 := by
            intro n
            induction n with
            | zero => intro h43 hz; cases hz
            | succ n ih43 =>
              intro h43 hz
              obtain ⟨x43, hf2, hk43⟩ := wl hz
              replace hf2 : f_X12_conditions_b43 v0 t41 h43 = some x43 := hf2
              unfold f_X12_conditions_b43 at hf2
              have J67 : ∀ (h44 : aH), f_X12_conditions_j67 h44 v0 t41 = some x43 → gW p l e (rmO 12 0 0) s m args below meth c (MQ below (eQ D cA B Hb out.2 (some (.int out.1))) args s 0 0 (fun q => B ≤ q)) D cA B Hb 2 h44 67 [(0, .ref v0), (1, .int t41)] [] 0 0 := by
                intro h44 hf2
                unfold f_X12_conditions_j67 at hf2
                refine r_aload_n C dX12_conditions_67 rfl ?_
                obtain ⟨u46, e45, hf2⟩ := ob hf2
                obtain ⟨h47, e48, hf2⟩ := ob hf2
                refine r_cV (ci := 12) (rest := []) (st2 := []) C (s_X12_joins e48) mk_X12_joins rfl (ck_k e45) (by decide) im_X12_joins sl_X12_joins lk_X12_262 rfl rfl rfl dX12_conditions_68 (Nat.le_of_ble_eq_true rfl) ⟨Nat.le_of_ble_eq_true rfl, Nat.le_of_ble_eq_true rfl⟩ ⟨Nat.le_of_ble_eq_true rfl, Nat.le_of_ble_eq_true rfl⟩ ?_
                refine r_goto (tgt := 43) C dX12_conditions_71 (by decide) ?_
                obtain rfl := so hf2
                exact ih43 h47 hk43
              refine r_aload_n C dX12_conditions_43 rfl ?_
              refine r_bipush (v := 11) C dX12_conditions_44 (by decide) ?_
              obtain ⟨u50, e49, hf2⟩ := ob hf2
              obtain ⟨t51, e52, hf2⟩ := ob hf2
              refine r_cV (ci := 12) (rest := []) (st2 := [.int t51]) C (s_X12_isDoing e52) mk_X12_isDoing rfl (ck_k e49) (by decide) im_X12_isDoing sl_X12_isDoing lk_X12_244 rfl rfl rfl dX12_conditions_46 (Nat.le_of_ble_eq_true rfl) ⟨Nat.le_of_ble_eq_true rfl, Nat.le_of_ble_eq_true rfl⟩ ⟨Nat.le_of_ble_eq_true rfl, Nat.le_of_ble_eq_true rfl⟩ ?_
              refine r_ifne (tgt := 67) C dX12_conditions_49 (by decide) (fun c53 => ?_) (fun c53 => ?_)
              · rw [if_neg c53] at hf2
                exact J67 h43 hf2
              · rw [if_pos c53] at hf2
                refine r_iload_n C dX12_conditions_52 rfl ?_
                refine r_bipush (v := 10) C dX12_conditions_53 (by decide) ?_
                refine r_icmp_ne (tgt := 74) C dX12_conditions_55 (by decide) (fun c54 => ?_) (fun c54 => ?_)
                · rw [if_neg c54] at hf2
                  obtain rfl := so hf2
                  obtain rfl := so (show some h43 = some y42 from hk43)
                  exact J74 h43 t41 hf1
                · rw [if_pos c54] at hf2
                  refine r_aload_n C dX12_conditions_58 rfl ?_
                  refine r_bipush (v := 10) C dX12_conditions_59 (by decide) ?_
                  obtain ⟨u56, e55, hf2⟩ := ob hf2
                  obtain ⟨t57, e58, hf2⟩ := ob hf2
                  refine r_cV (ci := 12) (rest := []) (st2 := [.int t57]) C (s_X12_isDoing e58) mk_X12_isDoing rfl (ck_k e55) (by decide) im_X12_isDoing sl_X12_isDoing lk_X12_244 rfl rfl rfl dX12_conditions_61 (Nat.le_of_ble_eq_true rfl) ⟨Nat.le_of_ble_eq_true rfl, Nat.le_of_ble_eq_true rfl⟩ ⟨Nat.le_of_ble_eq_true rfl, Nat.le_of_ble_eq_true rfl⟩ ?_
                  refine r_ifeq (tgt := 74) C dX12_conditions_64 (by decide) (fun c59 => ?_) (fun c59 => ?_)
                  · rw [if_pos c59] at hf2
                    obtain rfl := so hf2
                    obtain rfl := so (show some h43 = some y42 from hk43)
                    exact J74 h43 t41 hf1
                  · rw [if_neg c59] at hf2
                    exact J67 h43 hf2
          exact L43 wN h40 hl43
        refine r_iload_n C dX12_conditions_31 rfl ?_
        refine r_bipush (v := 10) C dX12_conditions_32 (by decide) ?_
        refine r_icmp_eq (tgt := 43) C dX12_conditions_34 (by decide) (fun c60 => ?_) (fun c60 => ?_)
        · rw [if_pos c60] at hf1
          exact J43 h19 t18 hf1
        · rw [if_neg c60] at hf1
          refine r_iload_n C dX12_conditions_37 rfl ?_
          refine r_bipush (v := 11) C dX12_conditions_38 (by decide) ?_
          refine r_icmp_ne (tgt := 102) C dX12_conditions_40 (by decide) (fun c61 => ?_) (fun c61 => ?_)
          · rw [if_neg c61] at hf1
            obtain rfl := so hf1
            obtain rfl := so (show some (.inr h19 : (aH) ⊕ (aH)) = some y17 from hk31)
            dsimp only at hf0
            refine r_aload_n C dX12_conditions_102 rfl ?_
            obtain ⟨u63, e62, hf0⟩ := ob hf0
            obtain ⟨t64, e65, hf0⟩ := ob hf0
            refine r_cV (ci := 12) (rest := []) (st2 := [.int t64]) C (s_X12_isOpen e65) mk_X12_isOpen rfl (ck_k e62) (by decide) im_X12_isOpen sl_X12_isOpen lk_X12_259 rfl rfl rfl dX12_conditions_103 (Nat.le_of_ble_eq_true rfl) ⟨Nat.le_of_ble_eq_true rfl, Nat.le_of_ble_eq_true rfl⟩ ⟨Nat.le_of_ble_eq_true rfl, Nat.le_of_ble_eq_true rfl⟩ ?_
            refine r_ifeq (tgt := 115) C dX12_conditions_106 (by decide) (fun c66 => ?_) (fun c66 => ?_)
            · rw [if_pos c66] at hf0
              obtain ⟨y67, hl115, hf0⟩ := ob hf0
              have L115 : ∀ (n : Nat) (h68 : aH), whileL n (fun q : aH => f_X12_conditions_b115 v0 q) h68 = some y67 → gW p l e (rmO 12 0 0) s m args below meth c (MQ below (eQ D cA B Hb out.2 (some (.int out.1))) args s 0 0 (fun q => B ≤ q)) D cA B Hb 2 h68 115 [(0, .ref v0)] [] 0 0 := by
                intro n
                induction n with
                | zero => intro h68 hz; cases hz
                | succ n ih115 =>
                  intro h68 hz
                  obtain ⟨x115, hf1, hk115⟩ := wl hz
                  replace hf1 : f_X12_conditions_b115 v0 h68 = some x115 := hf1
                  unfold f_X12_conditions_b115 at hf1
                  refine r_aload_n C dX12_conditions_115 rfl ?_
                  obtain ⟨t69, e70, hf1⟩ := ob hf1
                  refine r_getI C fk_X12_238 rfl dX12_conditions_116 e70 ?_
                  refine r_ifle (tgt := 129) C dX12_conditions_119 (by decide) (fun c71 => ?_) (fun c71 => ?_)
                  · rw [if_pos c71] at hf1
                    obtain rfl := so hf1
                    obtain rfl := so (show some h68 = some y67 from hk115)
                    refine r_iconst (v := 1) C dX12_conditions_129 (by decide) ?_
                    obtain rfl := so hf0
                    exact r_zret C dX12_conditions_130 (Or.inr rfl)
                  · rw [if_neg c71] at hf1
                    refine r_aload_n C dX12_conditions_122 rfl ?_
                    obtain ⟨u73, e72, hf1⟩ := ob hf1
                    obtain ⟨h74, e75, hf1⟩ := ob hf1
                    refine r_cV (ci := 12) (rest := []) (st2 := []) C (s_X12_joins e75) mk_X12_joins rfl (ck_k e72) (by decide) im_X12_joins sl_X12_joins lk_X12_262 rfl rfl rfl dX12_conditions_123 (Nat.le_of_ble_eq_true rfl) ⟨Nat.le_of_ble_eq_true rfl, Nat.le_of_ble_eq_true rfl⟩ ⟨Nat.le_of_ble_eq_true rfl, Nat.le_of_ble_eq_true rfl⟩ ?_
                    refine r_goto (tgt := 115) C dX12_conditions_126 (by decide) ?_
                    obtain rfl := so hf1
                    exact ih115 h74 hk115
              refine r_subk [0] (lv' := [(0, .ref v0)]) rfl ?_
              exact L115 wN h19 hl115
            · rw [if_neg c66] at hf0
              refine r_aload_n C dX12_conditions_109 rfl ?_
              refine r_iconst (v := 2) C dX12_conditions_110 (by decide) ?_
              obtain ⟨u77, e76, hf0⟩ := ob hf0
              obtain ⟨t78, h79, e80, hf0⟩ := ob2 hf0
              refine r_cV (ci := 12) (rest := []) (st2 := [.int t78]) C (s_X12_fails e80) mk_X12_fails rfl (ck_k e76) (by decide) im_X12_fails sl_X12_fails lk_X12_186 rfl rfl rfl dX12_conditions_111 (Nat.le_of_ble_eq_true rfl) ⟨Nat.le_of_ble_eq_true rfl, Nat.le_of_ble_eq_true rfl⟩ ⟨Nat.le_of_ble_eq_true rfl, Nat.le_of_ble_eq_true rfl⟩ ?_
              obtain ⟨t81, e82, hf0⟩ := ob hf0
              obtain ⟨rfl, e82z⟩ := rZ_k e82
              obtain rfl := so hf0
              exact r_zret C dX12_conditions_114 e82z
          · rw [if_pos c61] at hf1
            exact J43 h19 t18 hf1
    refine r_subk [1, 0] (lv' := [(0, .ref v0), (1, .int t15)]) rfl ?_
    exact L31 wN t15 h10 hl31
  · rw [if_pos c12] at hf0
    refine r_iconst (v := 0) C dX12_conditions_22 (by decide) ?_
    obtain rfl := so hf0
    exact r_zret C dX12_conditions_23 (Or.inl rfl)
def f_X12_aQuestion_b95 (v0 : Nat) (v1 : Int32) (v2 : Int32) (h : aH) : Option ((Int32 × aH) ⊕ (aH)) := if (4 : Int32) ≤ v2 then some (.inr h) else (gR h 12 v0 1).bind fun t1 => (gR h 12 v0 23).bind fun t2 => (lJ h t2 v2).bind fun t3 => (gR h 12 v0 1).bind fun t4 => (lJ h t4 ((208 : Int32) + v2)).bind fun t5 => (sJ h t1 (((212 : Int32) + ((4 : Int32) * v1)) + v2) (t3 &&& t5)).bind fun h6 => (some (v2 + (1 : Int32))).bind fun t7 => some (.inl (t7, h6))
def f_X12_aQuestion_l95 (v0 : Nat) (v1 : Int32) (v2 : Int32) (h : aH) : Option (aH) := whileL wN (fun q : Int32 × aH => f_X12_aQuestion_b95 v0 v1 q.1 q.2) (v2, h)
def f_X12_aQuestion_j93 (h : aH) (v0 : Nat) (v1 : Int32) : Option (Int32 × aH) := (f_X12_aQuestion_l95 v0 v1 (0 : Int32) h).bind fun h8 => (gR h8 12 v0 0).bind fun t9 => (lI h8 t9 (1603 : Int32)).bind fun t10 => (sI h8 t9 (1603 : Int32) (t10 + (1 : Int32))).bind fun h11 => some ((1 : Int32), h11)
def f_X12_aQuestion (h : aH) (v0 : Nat) : Option (Int32 × aH) := (gR h 12 v0 0).bind fun t12 => (lI h t12 (1603 : Int32)).bind fun t13 => if t13 = (12 : Int32) then (ck h 12 v0).bind fun _ => bd2 (f_X12_fails h v0 (6 : Int32)) fun t26 h27 => (rZ t26).bind fun t28 => some (t28, h27) else (ck h 12 v0).bind fun _ => (f_X12_ahead h v0).bind fun h14 => (ck h14 12 v0).bind fun _ => bd2 (f_X12_newName h14 v0 (28 : Int32) t13) fun t15 h16 => if t15 = 0 then some ((0 : Int32), h16) else (ck h16 12 v0).bind fun _ => bd2 (f_X12_wantWord h16 v0 1 (5 : Int32)) fun t17 h18 => if t17 = 0 then some ((0 : Int32), h18) else (ck h18 12 v0).bind fun _ => bd2 (f_X12_number h18 v0 ((1664 : Int32) + t13) (0 : Int32) (99 : Int32)) fun t19 h20 => if t19 = 0 then some ((0 : Int32), h20) else (ck h20 12 v0).bind fun _ => bd2 (f_X12_wantWord h20 v0 1 (6 : Int32)) fun t21 h22 => if t21 = 0 then some ((0 : Int32), h22) else (ck h22 12 v0).bind fun _ => bd2 (f_X12_conditions h22 v0) fun t23 h24 => if t23 = 0 then some ((0 : Int32), h24) else if t13 = 0 then (ck h24 12 v0).bind fun _ => (f_X12_finds h24 v0).bind fun h25 => f_X12_aQuestion_j93 h25 v0 t13 else f_X12_aQuestion_j93 h24 v0 t13
theorem s_X12_aQuestion {h : aH} {v0 : Nat} {out : Int32 × aH} (hf0 : f_X12_aQuestion h v0 = some out) : EV 13 yX12_aQuestion cX12_aQuestion 3 (some .boolean) h [.ref v0] (some (.int out.1)) out.2 0 0 := by
  refine EV.of (own := RX12) (lv0 := [(0, .ref v0)]) (by decide +kernel) rfl rfl (Nat.le_of_ble_eq_true rfl) ?_
  intro p l e s m args below meth c D cA B Hb C hin
  unfold f_X12_aQuestion at hf0
  have J93 : ∀ (h1 : aH) (t2 : Nat) (t3 : Int32), f_X12_aQuestion_j93 h1 t2 t3 = some out → gW p l e (rmO 13 0 0) s m args below meth c (MQ below (eQ D cA B Hb out.2 (some (.int out.1))) args s 0 0 (fun q => B ≤ q)) D cA B Hb 3 h1 93 [(0, .ref t2), (1, .int t3)] [] 0 0 := by
    intro h1 t2 t3 hf0
    unfold f_X12_aQuestion_j93 at hf0
    refine r_iconst (v := 0) C dX12_aQuestion_93 (by decide) ?_
    refine r_istore_n (lv' := [(2, .int (0 : Int32)), (0, .ref t2), (1, .int t3)]) C dX12_aQuestion_94 (by decide) rfl rfl ?_
    obtain ⟨y4, hl95, hf0⟩ := ob hf0
    have L95 : ∀ (n : Nat) (t5 : Int32) (h6 : aH), whileL n (fun q : Int32 × aH => f_X12_aQuestion_b95 t2 t3 q.1 q.2) (t5, h6) = some y4 → gW p l e (rmO 13 0 0) s m args below meth c (MQ below (eQ D cA B Hb out.2 (some (.int out.1))) args s 0 0 (fun q => B ≤ q)) D cA B Hb 3 h6 95 [(0, .ref t2), (1, .int t3), (2, .int t5)] [] 0 0 := by
      intro n
      induction n with
      | zero => intro t5 h6 hz; cases hz
      | succ n ih95 =>
        intro t5 h6 hz
        obtain ⟨x95, hf1, hk95⟩ := wl hz
        replace hf1 : f_X12_aQuestion_b95 t2 t3 t5 h6 = some x95 := hf1
        unfold f_X12_aQuestion_b95 at hf1
        refine r_iload_n C dX12_aQuestion_95 rfl ?_
        refine r_iconst (v := 4) C dX12_aQuestion_96 (by decide) ?_
        refine r_icmp_ge (tgt := 137) C dX12_aQuestion_97 (by decide) (fun c7 => ?_) (fun c7 => ?_)
        · rw [if_pos c7] at hf1
          obtain rfl := so hf1
          obtain rfl := so (show some h6 = some y4 from hk95)
          refine r_aload_n C dX12_aQuestion_137 rfl ?_
          obtain ⟨t8, e9, hf0⟩ := ob hf0
          refine r_getR C fk_X12_7 rfl dX12_aQuestion_138 e9 ?_
          refine r_sipush (v := 1603) C dX12_aQuestion_141 (by decide) ?_
          refine r_dup2 C dX12_aQuestion_144 rfl rfl ?_
          obtain ⟨t10, e11, hf0⟩ := ob hf0
          refine r_ldI C dX12_aQuestion_145 e11 ?_
          refine r_iconst (v := 1) C dX12_aQuestion_146 (by decide) ?_
          refine r_iadd C dX12_aQuestion_147 ?_
          obtain ⟨h12, e13, hf0⟩ := ob hf0
          refine r_stI C dX12_aQuestion_148 e13 ?_
          refine r_iconst (v := 1) C dX12_aQuestion_149 (by decide) ?_
          obtain rfl := so hf0
          exact r_zret C dX12_aQuestion_150 (Or.inr rfl)
        · rw [if_neg c7] at hf1
          refine r_aload_n C dX12_aQuestion_100 rfl ?_
          obtain ⟨t14, e15, hf1⟩ := ob hf1
          refine r_getR C fk_X12_13 rfl dX12_aQuestion_101 e15 ?_
          refine r_sipush (v := 212) C dX12_aQuestion_104 (by decide) ?_
          refine r_iconst (v := 4) C dX12_aQuestion_107 (by decide) ?_
          refine r_iload_n C dX12_aQuestion_108 rfl ?_
          refine r_imul C dX12_aQuestion_109 ?_
          refine r_iadd C dX12_aQuestion_110 ?_
          refine r_iload_n C dX12_aQuestion_111 rfl ?_
          refine r_iadd C dX12_aQuestion_112 ?_
          refine r_aload_n C dX12_aQuestion_113 rfl ?_
          obtain ⟨t16, e17, hf1⟩ := ob hf1
          refine r_getR C fk_X12_50 rfl dX12_aQuestion_114 e17 ?_
          refine r_iload_n C dX12_aQuestion_117 rfl ?_
          obtain ⟨t18, e19, hf1⟩ := ob hf1
          refine r_ldJ C dX12_aQuestion_118 e19 ?_
          refine r_aload_n C dX12_aQuestion_119 rfl ?_
          obtain ⟨t20, e21, hf1⟩ := ob hf1
          refine r_getR C fk_X12_13 rfl dX12_aQuestion_120 e21 ?_
          refine r_sipush (v := 208) C dX12_aQuestion_123 (by decide) ?_
          refine r_iload_n C dX12_aQuestion_126 rfl ?_
          refine r_iadd C dX12_aQuestion_127 ?_
          obtain ⟨t22, e23, hf1⟩ := ob hf1
          refine r_ldJ C dX12_aQuestion_128 e23 ?_
          refine r_land C dX12_aQuestion_129 ?_
          obtain ⟨h24, e25, hf1⟩ := ob hf1
          refine r_stJ C dX12_aQuestion_130 e25 ?_
          obtain ⟨t26, e27, hf1⟩ := ob hf1
          refine r_iinc (lv' := [(2, .int t26), (0, .ref t2), (1, .int t3)]) C dX12_aQuestion_131 rfl e27 (by decide) rfl ?_
          refine r_goto (tgt := 95) C dX12_aQuestion_134 (by decide) ?_
          obtain rfl := so hf1
          refine r_subk [1, 2, 0] (lv' := [(0, .ref t2), (1, .int t3), (2, .int t26)]) rfl ?_
          exact ih95 t26 h24 hk95
    refine r_subk [1, 2, 0] (lv' := [(0, .ref t2), (1, .int t3), (2, .int (0 : Int32))]) rfl ?_
    exact L95 wN (0 : Int32) h1 hl95
  refine r_aload_n C dX12_aQuestion_0 rfl ?_
  obtain ⟨t28, e29, hf0⟩ := ob hf0
  refine r_getR C fk_X12_7 rfl dX12_aQuestion_1 e29 ?_
  refine r_sipush (v := 1603) C dX12_aQuestion_4 (by decide) ?_
  obtain ⟨t30, e31, hf0⟩ := ob hf0
  refine r_ldI C dX12_aQuestion_7 e31 ?_
  refine r_istore_n (lv' := [(1, .int t30), (0, .ref v0)]) C dX12_aQuestion_8 (by decide) rfl rfl ?_
  refine r_iload_n C dX12_aQuestion_9 rfl ?_
  refine r_bipush (v := 12) C dX12_aQuestion_10 (by decide) ?_
  refine r_icmp_ne (tgt := 22) C dX12_aQuestion_12 (by decide) (fun c32 => ?_) (fun c32 => ?_)
  · rw [if_neg c32] at hf0
    refine r_aload_n C dX12_aQuestion_22 rfl ?_
    obtain ⟨u34, e33, hf0⟩ := ob hf0
    obtain ⟨h35, e36, hf0⟩ := ob hf0
    refine r_cV (ci := 12) (rest := []) (st2 := []) C (s_X12_ahead e36) mk_X12_ahead rfl (ck_k e33) (by decide) im_X12_ahead sl_X12_ahead lk_X12_180 rfl rfl rfl dX12_aQuestion_23 (Nat.le_of_ble_eq_true rfl) ⟨Nat.le_of_ble_eq_true rfl, Nat.le_of_ble_eq_true rfl⟩ ⟨Nat.le_of_ble_eq_true rfl, Nat.le_of_ble_eq_true rfl⟩ ?_
    refine r_aload_n C dX12_aQuestion_26 rfl ?_
    refine r_bipush (v := 28) C dX12_aQuestion_27 (by decide) ?_
    refine r_iload_n C dX12_aQuestion_29 rfl ?_
    obtain ⟨u38, e37, hf0⟩ := ob hf0
    obtain ⟨t39, h40, e41, hf0⟩ := ob2 hf0
    refine r_cV (ci := 12) (rest := []) (st2 := [.int t39]) C (s_X12_newName e41) mk_X12_newName rfl (ck_k e37) (by decide) im_X12_newName sl_X12_newName lk_X12_219 rfl rfl rfl dX12_aQuestion_30 (Nat.le_of_ble_eq_true rfl) ⟨Nat.le_of_ble_eq_true rfl, Nat.le_of_ble_eq_true rfl⟩ ⟨Nat.le_of_ble_eq_true rfl, Nat.le_of_ble_eq_true rfl⟩ ?_
    refine r_ifne (tgt := 38) C dX12_aQuestion_33 (by decide) (fun c42 => ?_) (fun c42 => ?_)
    · rw [if_neg c42] at hf0
      refine r_aload_n C dX12_aQuestion_38 rfl ?_
      refine r_lds1 C dX12_aQuestion_39 ?_
      refine r_iconst (v := 5) C dX12_aQuestion_41 (by decide) ?_
      obtain ⟨u44, e43, hf0⟩ := ob hf0
      obtain ⟨t45, h46, e47, hf0⟩ := ob2 hf0
      refine r_cV (ci := 12) (rest := []) (st2 := [.int t45]) C (s_X12_wantWord e47) mk_X12_wantWord rfl (ck_k e43) (by decide) im_X12_wantWord sl_X12_wantWord lk_X12_223 rfl rfl rfl dX12_aQuestion_42 (Nat.le_of_ble_eq_true rfl) ⟨Nat.le_of_ble_eq_true rfl, Nat.le_of_ble_eq_true rfl⟩ ⟨Nat.le_of_ble_eq_true rfl, Nat.le_of_ble_eq_true rfl⟩ ?_
      refine r_ifeq (tgt := 74) C dX12_aQuestion_45 (by decide) (fun c48 => ?_) (fun c48 => ?_)
      · rw [if_pos c48] at hf0
        refine r_iconst (v := 0) C dX12_aQuestion_74 (by decide) ?_
        obtain rfl := so hf0
        exact r_zret C dX12_aQuestion_75 (Or.inl rfl)
      · rw [if_neg c48] at hf0
        refine r_aload_n C dX12_aQuestion_48 rfl ?_
        refine r_sipush (v := 1664) C dX12_aQuestion_49 (by decide) ?_
        refine r_iload_n C dX12_aQuestion_52 rfl ?_
        refine r_iadd C dX12_aQuestion_53 ?_
        refine r_iconst (v := 0) C dX12_aQuestion_54 (by decide) ?_
        refine r_bipush (v := 99) C dX12_aQuestion_55 (by decide) ?_
        obtain ⟨u50, e49, hf0⟩ := ob hf0
        obtain ⟨t51, h52, e53, hf0⟩ := ob2 hf0
        refine r_cV (ci := 12) (rest := []) (st2 := [.int t51]) C (s_X12_number e53) mk_X12_number rfl (ck_k e49) (by decide) im_X12_number sl_X12_number lk_X12_227 rfl rfl rfl dX12_aQuestion_57 (Nat.le_of_ble_eq_true rfl) ⟨Nat.le_of_ble_eq_true rfl, Nat.le_of_ble_eq_true rfl⟩ ⟨Nat.le_of_ble_eq_true rfl, Nat.le_of_ble_eq_true rfl⟩ ?_
        refine r_ifeq (tgt := 74) C dX12_aQuestion_60 (by decide) (fun c54 => ?_) (fun c54 => ?_)
        · rw [if_pos c54] at hf0
          refine r_iconst (v := 0) C dX12_aQuestion_74 (by decide) ?_
          obtain rfl := so hf0
          exact r_zret C dX12_aQuestion_75 (Or.inl rfl)
        · rw [if_neg c54] at hf0
          refine r_aload_n C dX12_aQuestion_63 rfl ?_
          refine r_lds1 C dX12_aQuestion_64 ?_
          refine r_bipush (v := 6) C dX12_aQuestion_66 (by decide) ?_
          obtain ⟨u56, e55, hf0⟩ := ob hf0
          obtain ⟨t57, h58, e59, hf0⟩ := ob2 hf0
          refine r_cV (ci := 12) (rest := []) (st2 := [.int t57]) C (s_X12_wantWord e59) mk_X12_wantWord rfl (ck_k e55) (by decide) im_X12_wantWord sl_X12_wantWord lk_X12_223 rfl rfl rfl dX12_aQuestion_68 (Nat.le_of_ble_eq_true rfl) ⟨Nat.le_of_ble_eq_true rfl, Nat.le_of_ble_eq_true rfl⟩ ⟨Nat.le_of_ble_eq_true rfl, Nat.le_of_ble_eq_true rfl⟩ ?_
          refine r_ifne (tgt := 76) C dX12_aQuestion_71 (by decide) (fun c60 => ?_) (fun c60 => ?_)
          · rw [if_neg c60] at hf0
            refine r_aload_n C dX12_aQuestion_76 rfl ?_
            obtain ⟨u62, e61, hf0⟩ := ob hf0
            obtain ⟨t63, h64, e65, hf0⟩ := ob2 hf0
            refine r_cV (ci := 12) (rest := []) (st2 := [.int t63]) C (s_X12_conditions e65) mk_X12_conditions rfl (ck_k e61) (by decide) im_X12_conditions sl_X12_conditions lk_X12_268 rfl rfl rfl dX12_aQuestion_77 (Nat.le_of_ble_eq_true rfl) ⟨Nat.le_of_ble_eq_true rfl, Nat.le_of_ble_eq_true rfl⟩ ⟨Nat.le_of_ble_eq_true rfl, Nat.le_of_ble_eq_true rfl⟩ ?_
            refine r_ifne (tgt := 85) C dX12_aQuestion_80 (by decide) (fun c66 => ?_) (fun c66 => ?_)
            · rw [if_neg c66] at hf0
              refine r_iload_n C dX12_aQuestion_85 rfl ?_
              refine r_ifne (tgt := 93) C dX12_aQuestion_86 (by decide) (fun c67 => ?_) (fun c67 => ?_)
              · rw [if_neg c67] at hf0
                refine r_subk [1, 0] (lv' := [(0, .ref v0), (1, .int t30)]) rfl ?_
                exact J93 h64 v0 t30 hf0
              · rw [if_pos c67] at hf0
                refine r_aload_n C dX12_aQuestion_89 rfl ?_
                obtain ⟨u69, e68, hf0⟩ := ob hf0
                obtain ⟨h70, e71, hf0⟩ := ob hf0
                refine r_cV (ci := 12) (rest := []) (st2 := []) C (s_X12_finds e71) mk_X12_finds rfl (ck_k e68) (by decide) im_X12_finds sl_X12_finds lk_X12_271 rfl rfl rfl dX12_aQuestion_90 (Nat.le_of_ble_eq_true rfl) ⟨Nat.le_of_ble_eq_true rfl, Nat.le_of_ble_eq_true rfl⟩ ⟨Nat.le_of_ble_eq_true rfl, Nat.le_of_ble_eq_true rfl⟩ ?_
                refine r_subk [1, 0] (lv' := [(0, .ref v0), (1, .int t30)]) rfl ?_
                exact J93 h70 v0 t30 hf0
            · rw [if_pos c66] at hf0
              refine r_iconst (v := 0) C dX12_aQuestion_83 (by decide) ?_
              obtain rfl := so hf0
              exact r_zret C dX12_aQuestion_84 (Or.inl rfl)
          · rw [if_pos c60] at hf0
            refine r_iconst (v := 0) C dX12_aQuestion_74 (by decide) ?_
            obtain rfl := so hf0
            exact r_zret C dX12_aQuestion_75 (Or.inl rfl)
    · rw [if_pos c42] at hf0
      refine r_iconst (v := 0) C dX12_aQuestion_36 (by decide) ?_
      obtain rfl := so hf0
      exact r_zret C dX12_aQuestion_37 (Or.inl rfl)
  · rw [if_pos c32] at hf0
    refine r_aload_n C dX12_aQuestion_15 rfl ?_
    refine r_bipush (v := 6) C dX12_aQuestion_16 (by decide) ?_
    obtain ⟨u73, e72, hf0⟩ := ob hf0
    obtain ⟨t74, h75, e76, hf0⟩ := ob2 hf0
    refine r_cV (ci := 12) (rest := []) (st2 := [.int t74]) C (s_X12_fails e76) mk_X12_fails rfl (ck_k e72) (by decide) im_X12_fails sl_X12_fails lk_X12_186 rfl rfl rfl dX12_aQuestion_18 (Nat.le_of_ble_eq_true rfl) ⟨Nat.le_of_ble_eq_true rfl, Nat.le_of_ble_eq_true rfl⟩ ⟨Nat.le_of_ble_eq_true rfl, Nat.le_of_ble_eq_true rfl⟩ ?_
    obtain ⟨t77, e78, hf0⟩ := ob hf0
    obtain ⟨rfl, e78z⟩ := rZ_k e78
    obtain rfl := so hf0
    exact r_zret C dX12_aQuestion_21 e78z
def f_X12_several_b19 (v0 : Nat) (v1 : Int32) (v2 : Int32) (v3 : Int32) (h : aH) : Option ((aH) ⊕ ((aH) ⊕ (aH) ⊕ (aH))) := (ck h 12 v0).bind fun _ => (f_X12_isName h v0 1).bind fun t3 => if t3 = 0 then some (.inr (.inr (.inr h))) else (ck h 12 v0).bind fun _ => bd2 (f_X12_oldName h v0 (176 : Int32) v2 v3) fun t4 h5 => if t4 = 0 then some (.inr (.inl h5)) else (gR h5 12 v0 0).bind fun t6 => (lI h5 t6 v1).bind fun t7 => (gI h5 12 v0 21).bind fun t8 => if ((t7 >>> (t8 &&& 31)) &&& (1 : Int32)) = (1 : Int32) then some (.inr (.inr (.inl h5))) else (gR h5 12 v0 0).bind fun t9 => (lI h5 t9 v1).bind fun t10 => (gI h5 12 v0 21).bind fun t11 => (sI h5 t9 v1 (t10 ||| ((1 : Int32) <<< (t11 &&& 31)))).bind fun h12 => (ck h12 12 v0).bind fun _ => (f_X12_ahead h12 v0).bind fun h13 => some (.inl h13)
def f_X12_several_l19 (v0 : Nat) (v1 : Int32) (v2 : Int32) (v3 : Int32) (h : aH) : Option ((aH) ⊕ (aH) ⊕ (aH)) := whileL wN (fun q : aH => f_X12_several_b19 v0 v1 v2 v3 q) h
def f_X12_several (h : aH) (v0 : Nat) (v1 : Int32) (v2 : Int32) (v3 : Int32) : Option (Int32 × aH) := (ck h 12 v0).bind fun _ => (f_X12_ahead h v0).bind fun h1 => (ck h1 12 v0).bind fun _ => (f_X12_isName h1 v0 1).bind fun t2 => if t2 = 0 then (ck h1 12 v0).bind fun _ => bd2 (f_X12_fails h1 v0 (2 : Int32)) fun t20 h21 => (rZ t20).bind fun t22 => some (t22, h21) else (f_X12_several_l19 v0 v1 v2 v3 h1).bind fun e => match e with | .inl h14 => some ((0 : Int32), h14) | .inr (.inl h15) => (ck h15 12 v0).bind fun _ => bd2 (f_X12_fails h15 v0 (5 : Int32)) fun t16 h17 => (rZ t16).bind fun t18 => some (t18, h17) | .inr (.inr h19) => some ((1 : Int32), h19)
theorem s_X12_several {h : aH} {v0 : Nat} {v1 : Int32} {v2 : Int32} {v3 : Int32} {out : Int32 × aH} (hf0 : f_X12_several h v0 v1 v2 v3 = some out) : EV 11 yX12_several cX12_several 4 (some .boolean) h [.ref v0, .int v1, .int v2, .int v3] (some (.int out.1)) out.2 0 0 := by
  refine EV.of (own := RX12) (lv0 := [(0, .ref v0), (1, .int v1), (2, .int v2), (3, .int v3)]) (by decide +kernel) rfl rfl (Nat.le_of_ble_eq_true rfl) ?_
  intro p l e s m args below meth c D cA B Hb C hin
  unfold f_X12_several at hf0
  refine r_aload_n C dX12_several_0 rfl ?_
  obtain ⟨u2, e1, hf0⟩ := ob hf0
  obtain ⟨h3, e4, hf0⟩ := ob hf0
  refine r_cV (ci := 12) (rest := []) (st2 := []) C (s_X12_ahead e4) mk_X12_ahead rfl (ck_k e1) (by decide) im_X12_ahead sl_X12_ahead lk_X12_180 rfl rfl rfl dX12_several_1 (Nat.le_of_ble_eq_true rfl) ⟨Nat.le_of_ble_eq_true rfl, Nat.le_of_ble_eq_true rfl⟩ ⟨Nat.le_of_ble_eq_true rfl, Nat.le_of_ble_eq_true rfl⟩ ?_
  refine r_aload_n C dX12_several_4 rfl ?_
  refine r_lds1 C dX12_several_5 ?_
  obtain ⟨u6, e5, hf0⟩ := ob hf0
  obtain ⟨t7, e8, hf0⟩ := ob hf0
  refine r_cV (ci := 12) (rest := []) (st2 := [.int t7]) C (s_X12_isName e8) mk_X12_isName rfl (ck_k e5) (by decide) im_X12_isName sl_X12_isName lk_X12_208 rfl rfl rfl dX12_several_7 (Nat.le_of_ble_eq_true rfl) ⟨Nat.le_of_ble_eq_true rfl, Nat.le_of_ble_eq_true rfl⟩ ⟨Nat.le_of_ble_eq_true rfl, Nat.le_of_ble_eq_true rfl⟩ ?_
  refine r_ifne (tgt := 19) C dX12_several_10 (by decide) (fun c9 => ?_) (fun c9 => ?_)
  · rw [if_neg c9] at hf0
    obtain ⟨y10, hl19, hf0⟩ := ob hf0
    have L19 : ∀ (n : Nat) (h11 : aH), whileL n (fun q : aH => f_X12_several_b19 v0 v1 v2 v3 q) h11 = some y10 → gW p l e (rmO 11 0 0) s m args below meth c (MQ below (eQ D cA B Hb out.2 (some (.int out.1))) args s 0 0 (fun q => B ≤ q)) D cA B Hb 4 h11 19 [(0, .ref v0), (1, .int v1), (2, .int v2), (3, .int v3)] [] 0 0 := by
      intro n
      induction n with
      | zero => intro h11 hz; cases hz
      | succ n ih19 =>
        intro h11 hz
        obtain ⟨x19, hf1, hk19⟩ := wl hz
        replace hf1 : f_X12_several_b19 v0 v1 v2 v3 h11 = some x19 := hf1
        unfold f_X12_several_b19 at hf1
        refine r_aload_n C dX12_several_19 rfl ?_
        refine r_lds1 C dX12_several_20 ?_
        obtain ⟨u13, e12, hf1⟩ := ob hf1
        obtain ⟨t14, e15, hf1⟩ := ob hf1
        refine r_cV (ci := 12) (rest := []) (st2 := [.int t14]) C (s_X12_isName e15) mk_X12_isName rfl (ck_k e12) (by decide) im_X12_isName sl_X12_isName lk_X12_208 rfl rfl rfl dX12_several_22 (Nat.le_of_ble_eq_true rfl) ⟨Nat.le_of_ble_eq_true rfl, Nat.le_of_ble_eq_true rfl⟩ ⟨Nat.le_of_ble_eq_true rfl, Nat.le_of_ble_eq_true rfl⟩ ?_
        refine r_ifeq (tgt := 87) C dX12_several_25 (by decide) (fun c16 => ?_) (fun c16 => ?_)
        · rw [if_pos c16] at hf1
          obtain rfl := so hf1
          obtain rfl := so (show some (.inr (.inr h11) : (aH) ⊕ (aH) ⊕ (aH)) = some y10 from hk19)
          dsimp only at hf0
          refine r_iconst (v := 1) C dX12_several_87 (by decide) ?_
          obtain rfl := so hf0
          exact r_zret C dX12_several_88 (Or.inr rfl)
        · rw [if_neg c16] at hf1
          refine r_aload_n C dX12_several_28 rfl ?_
          refine r_sipush (v := 176) C dX12_several_29 (by decide) ?_
          refine r_iload_n C dX12_several_32 rfl ?_
          refine r_iload_n C dX12_several_33 rfl ?_
          obtain ⟨u18, e17, hf1⟩ := ob hf1
          obtain ⟨t19, h20, e21, hf1⟩ := ob2 hf1
          refine r_cV (ci := 12) (rest := []) (st2 := [.int t19]) C (s_X12_oldName e21) mk_X12_oldName rfl (ck_k e17) (by decide) im_X12_oldName sl_X12_oldName lk_X12_231 rfl rfl rfl dX12_several_34 (Nat.le_of_ble_eq_true rfl) ⟨Nat.le_of_ble_eq_true rfl, Nat.le_of_ble_eq_true rfl⟩ ⟨Nat.le_of_ble_eq_true rfl, Nat.le_of_ble_eq_true rfl⟩ ?_
          refine r_ifne (tgt := 42) C dX12_several_37 (by decide) (fun c22 => ?_) (fun c22 => ?_)
          · rw [if_neg c22] at hf1
            refine r_aload_n C dX12_several_42 rfl ?_
            obtain ⟨t23, e24, hf1⟩ := ob hf1
            refine r_getR C fk_X12_7 rfl dX12_several_43 e24 ?_
            refine r_iload_n C dX12_several_46 rfl ?_
            obtain ⟨t25, e26, hf1⟩ := ob hf1
            refine r_ldI C dX12_several_47 e26 ?_
            refine r_aload_n C dX12_several_48 rfl ?_
            obtain ⟨t27, e28, hf1⟩ := ob hf1
            refine r_getI C fk_X12_216 rfl dX12_several_49 e28 ?_
            refine r_ishr C dX12_several_52 ?_
            refine r_iconst (v := 1) C dX12_several_53 (by decide) ?_
            refine r_iand C dX12_several_54 ?_
            refine r_iconst (v := 1) C dX12_several_55 (by decide) ?_
            refine r_icmp_ne (tgt := 65) C dX12_several_56 (by decide) (fun c29 => ?_) (fun c29 => ?_)
            · rw [if_neg c29] at hf1
              refine r_aload_n C dX12_several_65 rfl ?_
              obtain ⟨t30, e31, hf1⟩ := ob hf1
              refine r_getR C fk_X12_7 rfl dX12_several_66 e31 ?_
              refine r_iload_n C dX12_several_69 rfl ?_
              refine r_dup2 C dX12_several_70 rfl rfl ?_
              obtain ⟨t32, e33, hf1⟩ := ob hf1
              refine r_ldI C dX12_several_71 e33 ?_
              refine r_iconst (v := 1) C dX12_several_72 (by decide) ?_
              refine r_aload_n C dX12_several_73 rfl ?_
              obtain ⟨t34, e35, hf1⟩ := ob hf1
              refine r_getI C fk_X12_216 rfl dX12_several_74 e35 ?_
              refine r_ishl C dX12_several_77 ?_
              refine r_ior C dX12_several_78 ?_
              obtain ⟨h36, e37, hf1⟩ := ob hf1
              refine r_stI C dX12_several_79 e37 ?_
              refine r_aload_n C dX12_several_80 rfl ?_
              obtain ⟨u39, e38, hf1⟩ := ob hf1
              obtain ⟨h40, e41, hf1⟩ := ob hf1
              refine r_cV (ci := 12) (rest := []) (st2 := []) C (s_X12_ahead e41) mk_X12_ahead rfl (ck_k e38) (by decide) im_X12_ahead sl_X12_ahead lk_X12_180 rfl rfl rfl dX12_several_81 (Nat.le_of_ble_eq_true rfl) ⟨Nat.le_of_ble_eq_true rfl, Nat.le_of_ble_eq_true rfl⟩ ⟨Nat.le_of_ble_eq_true rfl, Nat.le_of_ble_eq_true rfl⟩ ?_
              refine r_goto (tgt := 19) C dX12_several_84 (by decide) ?_
              obtain rfl := so hf1
              exact ih19 h40 hk19
            · rw [if_pos c29] at hf1
              obtain rfl := so hf1
              obtain rfl := so (show some (.inr (.inl h20) : (aH) ⊕ (aH) ⊕ (aH)) = some y10 from hk19)
              dsimp only at hf0
              refine r_aload_n C dX12_several_59 rfl ?_
              refine r_iconst (v := 5) C dX12_several_60 (by decide) ?_
              obtain ⟨u43, e42, hf0⟩ := ob hf0
              obtain ⟨t44, h45, e46, hf0⟩ := ob2 hf0
              refine r_cV (ci := 12) (rest := []) (st2 := [.int t44]) C (s_X12_fails e46) mk_X12_fails rfl (ck_k e42) (by decide) im_X12_fails sl_X12_fails lk_X12_186 rfl rfl rfl dX12_several_61 (Nat.le_of_ble_eq_true rfl) ⟨Nat.le_of_ble_eq_true rfl, Nat.le_of_ble_eq_true rfl⟩ ⟨Nat.le_of_ble_eq_true rfl, Nat.le_of_ble_eq_true rfl⟩ ?_
              obtain ⟨t47, e48, hf0⟩ := ob hf0
              obtain ⟨rfl, e48z⟩ := rZ_k e48
              obtain rfl := so hf0
              exact r_zret C dX12_several_64 e48z
          · rw [if_pos c22] at hf1
            obtain rfl := so hf1
            obtain rfl := so (show some (.inl h20 : (aH) ⊕ (aH) ⊕ (aH)) = some y10 from hk19)
            dsimp only at hf0
            refine r_iconst (v := 0) C dX12_several_40 (by decide) ?_
            obtain rfl := so hf0
            exact r_zret C dX12_several_41 (Or.inl rfl)
    exact L19 wN h3 hl19
  · rw [if_pos c9] at hf0
    refine r_aload_n C dX12_several_13 rfl ?_
    refine r_iconst (v := 2) C dX12_several_14 (by decide) ?_
    obtain ⟨u50, e49, hf0⟩ := ob hf0
    obtain ⟨t51, h52, e53, hf0⟩ := ob2 hf0
    refine r_cV (ci := 12) (rest := []) (st2 := [.int t51]) C (s_X12_fails e53) mk_X12_fails rfl (ck_k e49) (by decide) im_X12_fails sl_X12_fails lk_X12_186 rfl rfl rfl dX12_several_15 (Nat.le_of_ble_eq_true rfl) ⟨Nat.le_of_ble_eq_true rfl, Nat.le_of_ble_eq_true rfl⟩ ⟨Nat.le_of_ble_eq_true rfl, Nat.le_of_ble_eq_true rfl⟩ ?_
    obtain ⟨t54, e55, hf0⟩ := ob hf0
    obtain ⟨rfl, e55z⟩ := rZ_k e55
    obtain rfl := so hf0
    exact r_zret C dX12_several_18 e55z
def f_X12_aWitness_j257 (h : aH) (v0 : Nat) : Option (Int32 × aH) := (gR h 12 v0 0).bind fun t1 => (lI h t1 (1604 : Int32)).bind fun t2 => (sI h t1 (1604 : Int32) (t2 + (1 : Int32))).bind fun h3 => some ((1 : Int32), h3)
def f_X12_aWitness_j224 (h : aH) (v0 : Nat) (v2 : Int32) : Option (Int32 × aH) := (ck h 12 v0).bind fun _ => (f_X12_inWords h v0 1).bind fun t4 => if t4 = (9 : Int32) then (gR h 12 v0 0).bind fun t5 => (lI h t5 (1603 : Int32)).bind fun t6 => (ck h 12 v0).bind fun _ => bd2 (f_X12_several h v0 (v2 + (5 : Int32)) (28 : Int32) t6) fun t7 h8 => if t7 = 0 then some ((0 : Int32), h8) else f_X12_aWitness_j257 h8 v0 else f_X12_aWitness_j257 h v0
def f_X12_aWitness_j210 (h : aH) (v0 : Nat) (v2 : Int32) (v4 : Int32) : Option (Int32 × aH) := if v4 = (16 : Int32) then f_X12_aWitness_j224 h v0 v2 else (ck h 12 v0).bind fun _ => bd2 (f_X12_fails h v0 (8 : Int32)) fun t9 h10 => (rZ t9).bind fun t11 => some (t11, h10)
def f_X12_aWitness_j190 (h : aH) (v0 : Nat) (v2 : Int32) (v4 : Int32) : Option (Int32 × aH) := (ck h 12 v0).bind fun _ => (f_X12_isSign h v0 (59 : Int32)).bind fun t12 => if t12 = 0 then (ck h 12 v0).bind fun _ => (f_X12_inWords h v0 1).bind fun t13 => if t13 = (9 : Int32) then f_X12_aWitness_j210 h v0 v2 v4 else f_X12_aWitness_j224 h v0 v2 else f_X12_aWitness_j210 h v0 v2 v4
def f_X12_aWitness_j110 (h : aH) (v0 : Nat) : Option (Int32 × aH) := (ck h 12 v0).bind fun _ => bd2 (f_X12_fails h v0 (2 : Int32)) fun t14 h15 => (rZ t14).bind fun t16 => some (t16, h15)
def f_X12_aWitness_b119 (v0 : Nat) (v2 : Int32) (v3 : Int32) (v4 : Int32) (h : aH) : Option ((Int32 × Int32 × aH) ⊕ ((aH) ⊕ (aH) ⊕ (Int32 × aH))) := if v3 < 0 then some (.inr (.inr (.inr (v4, h)))) else if (4 : Int32) ≤ v3 then some (.inr (.inr (.inr (v4, h)))) else (gR h 12 v0 0).bind fun t21 => (lI h t21 (v2 + v3)).bind fun t22 => if t22 ≤ 0 then (ck h 12 v0).bind fun _ => (f_X12_ahead h v0).bind fun h23 => (ck h23 12 v0).bind fun _ => bd2 (f_X12_number h23 v0 (v2 + v3) (1 : Int32) (16 : Int32)) fun t24 h25 => if t24 = 0 then some (.inr (.inr (.inl h25))) else (gR h25 12 v0 0).bind fun t26 => (lI h25 t26 (v2 + v3)).bind fun t27 => (some (v4 + t27)).bind fun t28 => (ck h25 12 v0).bind fun _ => (f_X12_inWords h25 v0 1).bind fun t29 => (some (t29 - (13 : Int32))).bind fun t30 => some (.inl (t30, t28, h25)) else some (.inr (.inl h))
def f_X12_aWitness_l119 (v0 : Nat) (v2 : Int32) (v3 : Int32) (v4 : Int32) (h : aH) : Option ((aH) ⊕ (aH) ⊕ (Int32 × aH)) := whileL wN (fun q : Int32 × Int32 × aH => f_X12_aWitness_b119 v0 v2 q.1 q.2.1 q.2.2) (v3, v4, h)
def f_X12_aWitness_j78 (h : aH) (v0 : Nat) (v2 : Int32) : Option (Int32 × aH) := (ck h 12 v0).bind fun _ => bd2 (f_X12_wantWord h v0 1 (8 : Int32)) fun t17 h18 => if t17 = 0 then some ((0 : Int32), h18) else (ck h18 12 v0).bind fun _ => (f_X12_inWords h18 v0 1).bind fun t19 => (some (t19 - (13 : Int32))).bind fun t20 => if t20 < 0 then f_X12_aWitness_j110 h18 v0 else if t20 ≤ (3 : Int32) then (f_X12_aWitness_l119 v0 v2 t20 (0 : Int32) h18).bind fun e => match e with | .inl h31 => (ck h31 12 v0).bind fun _ => bd2 (f_X12_fails h31 v0 (5 : Int32)) fun t32 h33 => (rZ t32).bind fun t34 => some (t34, h33) | .inr (.inl h35) => some ((0 : Int32), h35) | .inr (.inr (t36, h37)) => f_X12_aWitness_j190 h37 v0 v2 t36 else f_X12_aWitness_j110 h18 v0
def f_X12_aWitness (h : aH) (v0 : Nat) : Option (Int32 × aH) := (gR h 12 v0 0).bind fun t38 => (lI h t38 (1604 : Int32)).bind fun t39 => (some ((1676 : Int32) + ((6 : Int32) * t39))).bind fun t40 => if t39 = (4 : Int32) then (ck h 12 v0).bind fun _ => bd2 (f_X12_fails h v0 (6 : Int32)) fun t49 h50 => (rZ t49).bind fun t51 => some (t51, h50) else (ck h 12 v0).bind fun _ => (f_X12_ahead h v0).bind fun h41 => (ck h41 12 v0).bind fun _ => bd2 (f_X12_newName h41 v0 (40 : Int32) t39) fun t42 h43 => if t42 = 0 then some ((0 : Int32), h43) else (ck h43 12 v0).bind fun _ => (f_X12_inWords h43 v0 1).bind fun t44 => if t44 = (7 : Int32) then (gR h43 12 v0 0).bind fun t45 => (lI h43 t45 (1600 : Int32)).bind fun t46 => (ck h43 12 v0).bind fun _ => bd2 (f_X12_several h43 v0 (t40 + (4 : Int32)) (0 : Int32) t46) fun t47 h48 => if t47 = 0 then some ((0 : Int32), h48) else f_X12_aWitness_j78 h48 v0 t40 else f_X12_aWitness_j78 h43 v0 t40
theorem s_X12_aWitness {h : aH} {v0 : Nat} {out : Int32 × aH} (hf0 : f_X12_aWitness h v0 = some out) : EV 12 yX12_aWitness cX12_aWitness 5 (some .boolean) h [.ref v0] (some (.int out.1)) out.2 0 0 := by
  refine EV.of (own := RX12) (lv0 := [(0, .ref v0)]) (by decide +kernel) rfl rfl (Nat.le_of_ble_eq_true rfl) ?_
  intro p l e s m args below meth c D cA B Hb C hin
  unfold f_X12_aWitness at hf0
  have J257 : ∀ (h1 : aH) (t2 : Nat), f_X12_aWitness_j257 h1 t2 = some out → gW p l e (rmO 12 0 0) s m args below meth c (MQ below (eQ D cA B Hb out.2 (some (.int out.1))) args s 0 0 (fun q => B ≤ q)) D cA B Hb 5 h1 257 [(0, .ref t2)] [] 0 0 := by
    intro h1 t2 hf0
    unfold f_X12_aWitness_j257 at hf0
    refine r_aload_n C dX12_aWitness_257 rfl ?_
    obtain ⟨t3, e4, hf0⟩ := ob hf0
    refine r_getR C fk_X12_7 rfl dX12_aWitness_258 e4 ?_
    refine r_sipush (v := 1604) C dX12_aWitness_261 (by decide) ?_
    refine r_dup2 C dX12_aWitness_264 rfl rfl ?_
    obtain ⟨t5, e6, hf0⟩ := ob hf0
    refine r_ldI C dX12_aWitness_265 e6 ?_
    refine r_iconst (v := 1) C dX12_aWitness_266 (by decide) ?_
    refine r_iadd C dX12_aWitness_267 ?_
    obtain ⟨h7, e8, hf0⟩ := ob hf0
    refine r_stI C dX12_aWitness_268 e8 ?_
    refine r_iconst (v := 1) C dX12_aWitness_269 (by decide) ?_
    obtain rfl := so hf0
    exact r_zret C dX12_aWitness_270 (Or.inr rfl)
  have J224 : ∀ (h9 : aH) (t10 : Nat) (t11 : Int32), f_X12_aWitness_j224 h9 t10 t11 = some out → gW p l e (rmO 12 0 0) s m args below meth c (MQ below (eQ D cA B Hb out.2 (some (.int out.1))) args s 0 0 (fun q => B ≤ q)) D cA B Hb 5 h9 224 [(0, .ref t10), (2, .int t11)] [] 0 0 := by
    intro h9 t10 t11 hf0
    unfold f_X12_aWitness_j224 at hf0
    refine r_aload_n C dX12_aWitness_224 rfl ?_
    refine r_lds1 C dX12_aWitness_225 ?_
    obtain ⟨u13, e12, hf0⟩ := ob hf0
    obtain ⟨t14, e15, hf0⟩ := ob hf0
    refine r_cV (ci := 12) (rest := []) (st2 := [.int t14]) C (s_X12_inWords e15) mk_X12_inWords rfl (ck_k e12) (by decide) im_X12_inWords sl_X12_inWords lk_X12_189 rfl rfl rfl dX12_aWitness_227 (Nat.le_of_ble_eq_true rfl) ⟨Nat.le_of_ble_eq_true rfl, Nat.le_of_ble_eq_true rfl⟩ ⟨Nat.le_of_ble_eq_true rfl, Nat.le_of_ble_eq_true rfl⟩ ?_
    refine r_bipush (v := 9) C dX12_aWitness_230 (by decide) ?_
    refine r_icmp_ne (tgt := 257) C dX12_aWitness_232 (by decide) (fun c16 => ?_) (fun c16 => ?_)
    · rw [if_neg c16] at hf0
      refine r_subk [0] (lv' := [(0, .ref t10)]) rfl ?_
      exact J257 h9 t10 hf0
    · rw [if_pos c16] at hf0
      refine r_aload_n C dX12_aWitness_235 rfl ?_
      refine r_iload_n C dX12_aWitness_236 rfl ?_
      refine r_iconst (v := 5) C dX12_aWitness_237 (by decide) ?_
      refine r_iadd C dX12_aWitness_238 ?_
      refine r_bipush (v := 28) C dX12_aWitness_239 (by decide) ?_
      refine r_aload_n C dX12_aWitness_241 rfl ?_
      obtain ⟨t17, e18, hf0⟩ := ob hf0
      refine r_getR C fk_X12_7 rfl dX12_aWitness_242 e18 ?_
      refine r_sipush (v := 1603) C dX12_aWitness_245 (by decide) ?_
      obtain ⟨t19, e20, hf0⟩ := ob hf0
      refine r_ldI C dX12_aWitness_248 e20 ?_
      obtain ⟨u22, e21, hf0⟩ := ob hf0
      obtain ⟨t23, h24, e25, hf0⟩ := ob2 hf0
      refine r_cV (ci := 12) (rest := []) (st2 := [.int t23]) C (s_X12_several e25) mk_X12_several rfl (ck_k e21) (by decide) im_X12_several sl_X12_several lk_X12_274 rfl rfl rfl dX12_aWitness_249 (Nat.le_of_ble_eq_true rfl) ⟨Nat.le_of_ble_eq_true rfl, Nat.le_of_ble_eq_true rfl⟩ ⟨Nat.le_of_ble_eq_true rfl, Nat.le_of_ble_eq_true rfl⟩ ?_
      refine r_ifne (tgt := 257) C dX12_aWitness_252 (by decide) (fun c26 => ?_) (fun c26 => ?_)
      · rw [if_neg c26] at hf0
        refine r_subk [0] (lv' := [(0, .ref t10)]) rfl ?_
        exact J257 h24 t10 hf0
      · rw [if_pos c26] at hf0
        refine r_iconst (v := 0) C dX12_aWitness_255 (by decide) ?_
        obtain rfl := so hf0
        exact r_zret C dX12_aWitness_256 (Or.inl rfl)
  have J210 : ∀ (h27 : aH) (t28 : Nat) (t29 : Int32) (t30 : Int32), f_X12_aWitness_j210 h27 t28 t29 t30 = some out → gW p l e (rmO 12 0 0) s m args below meth c (MQ below (eQ D cA B Hb out.2 (some (.int out.1))) args s 0 0 (fun q => B ≤ q)) D cA B Hb 5 h27 210 [(0, .ref t28), (2, .int t29), (4, .int t30)] [] 0 0 := by
    intro h27 t28 t29 t30 hf0
    unfold f_X12_aWitness_j210 at hf0
    refine r_iload C dX12_aWitness_210 rfl ?_
    refine r_bipush (v := 16) C dX12_aWitness_212 (by decide) ?_
    refine r_icmp_eq (tgt := 224) C dX12_aWitness_214 (by decide) (fun c31 => ?_) (fun c31 => ?_)
    · rw [if_pos c31] at hf0
      refine r_subk [0, 1] (lv' := [(0, .ref t28), (2, .int t29)]) rfl ?_
      exact J224 h27 t28 t29 hf0
    · rw [if_neg c31] at hf0
      refine r_aload_n C dX12_aWitness_217 rfl ?_
      refine r_bipush (v := 8) C dX12_aWitness_218 (by decide) ?_
      obtain ⟨u33, e32, hf0⟩ := ob hf0
      obtain ⟨t34, h35, e36, hf0⟩ := ob2 hf0
      refine r_cV (ci := 12) (rest := []) (st2 := [.int t34]) C (s_X12_fails e36) mk_X12_fails rfl (ck_k e32) (by decide) im_X12_fails sl_X12_fails lk_X12_186 rfl rfl rfl dX12_aWitness_220 (Nat.le_of_ble_eq_true rfl) ⟨Nat.le_of_ble_eq_true rfl, Nat.le_of_ble_eq_true rfl⟩ ⟨Nat.le_of_ble_eq_true rfl, Nat.le_of_ble_eq_true rfl⟩ ?_
      obtain ⟨t37, e38, hf0⟩ := ob hf0
      obtain ⟨rfl, e38z⟩ := rZ_k e38
      obtain rfl := so hf0
      exact r_zret C dX12_aWitness_223 e38z
  have J190 : ∀ (h39 : aH) (t40 : Nat) (t41 : Int32) (t42 : Int32), f_X12_aWitness_j190 h39 t40 t41 t42 = some out → gW p l e (rmO 12 0 0) s m args below meth c (MQ below (eQ D cA B Hb out.2 (some (.int out.1))) args s 0 0 (fun q => B ≤ q)) D cA B Hb 5 h39 190 [(0, .ref t40), (2, .int t41), (4, .int t42)] [] 0 0 := by
    intro h39 t40 t41 t42 hf0
    unfold f_X12_aWitness_j190 at hf0
    refine r_aload_n C dX12_aWitness_190 rfl ?_
    refine r_bipush (v := 59) C dX12_aWitness_191 (by decide) ?_
    obtain ⟨u44, e43, hf0⟩ := ob hf0
    obtain ⟨t45, e46, hf0⟩ := ob hf0
    refine r_cV (ci := 12) (rest := []) (st2 := [.int t45]) C (s_X12_isSign e46) mk_X12_isSign rfl (ck_k e43) (by decide) im_X12_isSign sl_X12_isSign lk_X12_183 rfl rfl rfl dX12_aWitness_193 (Nat.le_of_ble_eq_true rfl) ⟨Nat.le_of_ble_eq_true rfl, Nat.le_of_ble_eq_true rfl⟩ ⟨Nat.le_of_ble_eq_true rfl, Nat.le_of_ble_eq_true rfl⟩ ?_
    refine r_ifne (tgt := 210) C dX12_aWitness_196 (by decide) (fun c47 => ?_) (fun c47 => ?_)
    · rw [if_neg c47] at hf0
      exact J210 h39 t40 t41 t42 hf0
    · rw [if_pos c47] at hf0
      refine r_aload_n C dX12_aWitness_199 rfl ?_
      refine r_lds1 C dX12_aWitness_200 ?_
      obtain ⟨u49, e48, hf0⟩ := ob hf0
      obtain ⟨t50, e51, hf0⟩ := ob hf0
      refine r_cV (ci := 12) (rest := []) (st2 := [.int t50]) C (s_X12_inWords e51) mk_X12_inWords rfl (ck_k e48) (by decide) im_X12_inWords sl_X12_inWords lk_X12_189 rfl rfl rfl dX12_aWitness_202 (Nat.le_of_ble_eq_true rfl) ⟨Nat.le_of_ble_eq_true rfl, Nat.le_of_ble_eq_true rfl⟩ ⟨Nat.le_of_ble_eq_true rfl, Nat.le_of_ble_eq_true rfl⟩ ?_
      refine r_bipush (v := 9) C dX12_aWitness_205 (by decide) ?_
      refine r_icmp_ne (tgt := 224) C dX12_aWitness_207 (by decide) (fun c52 => ?_) (fun c52 => ?_)
      · rw [if_neg c52] at hf0
        refine r_subk [0, 1] (lv' := [(0, .ref t40), (2, .int t41)]) rfl ?_
        exact J224 h39 t40 t41 hf0
      · rw [if_pos c52] at hf0
        exact J210 h39 t40 t41 t42 hf0
  have J110 : ∀ (h53 : aH) (t54 : Nat), f_X12_aWitness_j110 h53 t54 = some out → gW p l e (rmO 12 0 0) s m args below meth c (MQ below (eQ D cA B Hb out.2 (some (.int out.1))) args s 0 0 (fun q => B ≤ q)) D cA B Hb 5 h53 110 [(0, .ref t54)] [] 0 0 := by
    intro h53 t54 hf0
    unfold f_X12_aWitness_j110 at hf0
    refine r_aload_n C dX12_aWitness_110 rfl ?_
    refine r_iconst (v := 2) C dX12_aWitness_111 (by decide) ?_
    obtain ⟨u56, e55, hf0⟩ := ob hf0
    obtain ⟨t57, h58, e59, hf0⟩ := ob2 hf0
    refine r_cV (ci := 12) (rest := []) (st2 := [.int t57]) C (s_X12_fails e59) mk_X12_fails rfl (ck_k e55) (by decide) im_X12_fails sl_X12_fails lk_X12_186 rfl rfl rfl dX12_aWitness_112 (Nat.le_of_ble_eq_true rfl) ⟨Nat.le_of_ble_eq_true rfl, Nat.le_of_ble_eq_true rfl⟩ ⟨Nat.le_of_ble_eq_true rfl, Nat.le_of_ble_eq_true rfl⟩ ?_
    obtain ⟨t60, e61, hf0⟩ := ob hf0
    obtain ⟨rfl, e61z⟩ := rZ_k e61
    obtain rfl := so hf0
    exact r_zret C dX12_aWitness_115 e61z
  have J78 : ∀ (h62 : aH) (t63 : Nat) (t64 : Int32), f_X12_aWitness_j78 h62 t63 t64 = some out → gW p l e (rmO 12 0 0) s m args below meth c (MQ below (eQ D cA B Hb out.2 (some (.int out.1))) args s 0 0 (fun q => B ≤ q)) D cA B Hb 5 h62 78 [(0, .ref t63), (2, .int t64)] [] 0 0 := by
    intro h62 t63 t64 hf0
    unfold f_X12_aWitness_j78 at hf0
    refine r_aload_n C dX12_aWitness_78 rfl ?_
    refine r_lds1 C dX12_aWitness_79 ?_
    refine r_bipush (v := 8) C dX12_aWitness_81 (by decide) ?_
    obtain ⟨u66, e65, hf0⟩ := ob hf0
    obtain ⟨t67, h68, e69, hf0⟩ := ob2 hf0
    refine r_cV (ci := 12) (rest := []) (st2 := [.int t67]) C (s_X12_wantWord e69) mk_X12_wantWord rfl (ck_k e65) (by decide) im_X12_wantWord sl_X12_wantWord lk_X12_223 rfl rfl rfl dX12_aWitness_83 (Nat.le_of_ble_eq_true rfl) ⟨Nat.le_of_ble_eq_true rfl, Nat.le_of_ble_eq_true rfl⟩ ⟨Nat.le_of_ble_eq_true rfl, Nat.le_of_ble_eq_true rfl⟩ ?_
    refine r_ifne (tgt := 91) C dX12_aWitness_86 (by decide) (fun c70 => ?_) (fun c70 => ?_)
    · rw [if_neg c70] at hf0
      refine r_aload_n C dX12_aWitness_91 rfl ?_
      refine r_lds1 C dX12_aWitness_92 ?_
      obtain ⟨u72, e71, hf0⟩ := ob hf0
      obtain ⟨t73, e74, hf0⟩ := ob hf0
      refine r_cV (ci := 12) (rest := []) (st2 := [.int t73]) C (s_X12_inWords e74) mk_X12_inWords rfl (ck_k e71) (by decide) im_X12_inWords sl_X12_inWords lk_X12_189 rfl rfl rfl dX12_aWitness_94 (Nat.le_of_ble_eq_true rfl) ⟨Nat.le_of_ble_eq_true rfl, Nat.le_of_ble_eq_true rfl⟩ ⟨Nat.le_of_ble_eq_true rfl, Nat.le_of_ble_eq_true rfl⟩ ?_
      refine r_bipush (v := 13) C dX12_aWitness_97 (by decide) ?_
      refine r_isub C dX12_aWitness_99 ?_
      obtain ⟨t75, e76, hf0⟩ := ob hf0
      refine r_istore_n (lv' := [(3, .int t75), (0, .ref t63), (2, .int t64)]) C dX12_aWitness_100 (by decide) e76 rfl ?_
      refine r_iload_n C dX12_aWitness_101 rfl ?_
      refine r_iflt (tgt := 110) C dX12_aWitness_102 (by decide) (fun c77 => ?_) (fun c77 => ?_)
      · rw [if_pos c77] at hf0
        refine r_subk [1] (lv' := [(0, .ref t63)]) rfl ?_
        exact J110 h68 t63 hf0
      · rw [if_neg c77] at hf0
        refine r_iload_n C dX12_aWitness_105 rfl ?_
        refine r_iconst (v := 3) C dX12_aWitness_106 (by decide) ?_
        refine r_icmp_le (tgt := 116) C dX12_aWitness_107 (by decide) (fun c78 => ?_) (fun c78 => ?_)
        · rw [if_pos c78] at hf0
          refine r_iconst (v := 0) C dX12_aWitness_116 (by decide) ?_
          refine r_istore (lv' := [(4, .int (0 : Int32)), (3, .int t75), (0, .ref t63), (2, .int t64)]) C dX12_aWitness_117 (by decide) rfl rfl ?_
          obtain ⟨y79, hl119, hf0⟩ := ob hf0
          have L119 : ∀ (n : Nat) (t80 : Int32) (t81 : Int32) (h82 : aH), whileL n (fun q : Int32 × Int32 × aH => f_X12_aWitness_b119 t63 t64 q.1 q.2.1 q.2.2) (t80, t81, h82) = some y79 → gW p l e (rmO 12 0 0) s m args below meth c (MQ below (eQ D cA B Hb out.2 (some (.int out.1))) args s 0 0 (fun q => B ≤ q)) D cA B Hb 5 h82 119 [(0, .ref t63), (2, .int t64), (3, .int t80), (4, .int t81)] [] 0 0 := by
            intro n
            induction n with
            | zero => intro t80 t81 h82 hz; cases hz
            | succ n ih119 =>
              intro t80 t81 h82 hz
              obtain ⟨x119, hf1, hk119⟩ := wl hz
              replace hf1 : f_X12_aWitness_b119 t63 t64 t80 t81 h82 = some x119 := hf1
              unfold f_X12_aWitness_b119 at hf1
              refine r_iload_n C dX12_aWitness_119 rfl ?_
              refine r_iflt (tgt := 190) C dX12_aWitness_120 (by decide) (fun c83 => ?_) (fun c83 => ?_)
              · rw [if_pos c83] at hf1
                obtain rfl := so hf1
                obtain rfl := so (show some (.inr (.inr (t81, h82)) : (aH) ⊕ (aH) ⊕ (Int32 × aH)) = some y79 from hk119)
                dsimp only at hf0
                refine r_subk [0, 1, 3] (lv' := [(0, .ref t63), (2, .int t64), (4, .int t81)]) rfl ?_
                exact J190 h82 t63 t64 t81 hf0
              · rw [if_neg c83] at hf1
                refine r_iload_n C dX12_aWitness_123 rfl ?_
                refine r_iconst (v := 4) C dX12_aWitness_124 (by decide) ?_
                refine r_icmp_ge (tgt := 190) C dX12_aWitness_125 (by decide) (fun c84 => ?_) (fun c84 => ?_)
                · rw [if_pos c84] at hf1
                  obtain rfl := so hf1
                  obtain rfl := so (show some (.inr (.inr (t81, h82)) : (aH) ⊕ (aH) ⊕ (Int32 × aH)) = some y79 from hk119)
                  dsimp only at hf0
                  refine r_subk [0, 1, 3] (lv' := [(0, .ref t63), (2, .int t64), (4, .int t81)]) rfl ?_
                  exact J190 h82 t63 t64 t81 hf0
                · rw [if_neg c84] at hf1
                  refine r_aload_n C dX12_aWitness_128 rfl ?_
                  obtain ⟨t85, e86, hf1⟩ := ob hf1
                  refine r_getR C fk_X12_7 rfl dX12_aWitness_129 e86 ?_
                  refine r_iload_n C dX12_aWitness_132 rfl ?_
                  refine r_iload_n C dX12_aWitness_133 rfl ?_
                  refine r_iadd C dX12_aWitness_134 ?_
                  obtain ⟨t87, e88, hf1⟩ := ob hf1
                  refine r_ldI C dX12_aWitness_135 e88 ?_
                  refine r_ifle (tgt := 145) C dX12_aWitness_136 (by decide) (fun c89 => ?_) (fun c89 => ?_)
                  · rw [if_pos c89] at hf1
                    refine r_aload_n C dX12_aWitness_145 rfl ?_
                    obtain ⟨u91, e90, hf1⟩ := ob hf1
                    obtain ⟨h92, e93, hf1⟩ := ob hf1
                    refine r_cV (ci := 12) (rest := []) (st2 := []) C (s_X12_ahead e93) mk_X12_ahead rfl (ck_k e90) (by decide) im_X12_ahead sl_X12_ahead lk_X12_180 rfl rfl rfl dX12_aWitness_146 (Nat.le_of_ble_eq_true rfl) ⟨Nat.le_of_ble_eq_true rfl, Nat.le_of_ble_eq_true rfl⟩ ⟨Nat.le_of_ble_eq_true rfl, Nat.le_of_ble_eq_true rfl⟩ ?_
                    refine r_aload_n C dX12_aWitness_149 rfl ?_
                    refine r_iload_n C dX12_aWitness_150 rfl ?_
                    refine r_iload_n C dX12_aWitness_151 rfl ?_
                    refine r_iadd C dX12_aWitness_152 ?_
                    refine r_iconst (v := 1) C dX12_aWitness_153 (by decide) ?_
                    refine r_bipush (v := 16) C dX12_aWitness_154 (by decide) ?_
                    obtain ⟨u95, e94, hf1⟩ := ob hf1
                    obtain ⟨t96, h97, e98, hf1⟩ := ob2 hf1
                    refine r_cV (ci := 12) (rest := []) (st2 := [.int t96]) C (s_X12_number e98) mk_X12_number rfl (ck_k e94) (by decide) im_X12_number sl_X12_number lk_X12_227 rfl rfl rfl dX12_aWitness_156 (Nat.le_of_ble_eq_true rfl) ⟨Nat.le_of_ble_eq_true rfl, Nat.le_of_ble_eq_true rfl⟩ ⟨Nat.le_of_ble_eq_true rfl, Nat.le_of_ble_eq_true rfl⟩ ?_
                    refine r_ifne (tgt := 164) C dX12_aWitness_159 (by decide) (fun c99 => ?_) (fun c99 => ?_)
                    · rw [if_neg c99] at hf1
                      refine r_iload C dX12_aWitness_164 rfl ?_
                      refine r_aload_n C dX12_aWitness_166 rfl ?_
                      obtain ⟨t100, e101, hf1⟩ := ob hf1
                      refine r_getR C fk_X12_7 rfl dX12_aWitness_167 e101 ?_
                      refine r_iload_n C dX12_aWitness_170 rfl ?_
                      refine r_iload_n C dX12_aWitness_171 rfl ?_
                      refine r_iadd C dX12_aWitness_172 ?_
                      obtain ⟨t102, e103, hf1⟩ := ob hf1
                      refine r_ldI C dX12_aWitness_173 e103 ?_
                      refine r_iadd C dX12_aWitness_174 ?_
                      obtain ⟨t104, e105, hf1⟩ := ob hf1
                      refine r_istore (lv' := [(4, .int t104), (0, .ref t63), (2, .int t64), (3, .int t80)]) C dX12_aWitness_175 (by decide) e105 rfl ?_
                      refine r_aload_n C dX12_aWitness_177 rfl ?_
                      refine r_lds1 C dX12_aWitness_178 ?_
                      obtain ⟨u107, e106, hf1⟩ := ob hf1
                      obtain ⟨t108, e109, hf1⟩ := ob hf1
                      refine r_cV (ci := 12) (rest := []) (st2 := [.int t108]) C (s_X12_inWords e109) mk_X12_inWords rfl (ck_k e106) (by decide) im_X12_inWords sl_X12_inWords lk_X12_189 rfl rfl rfl dX12_aWitness_180 (Nat.le_of_ble_eq_true rfl) ⟨Nat.le_of_ble_eq_true rfl, Nat.le_of_ble_eq_true rfl⟩ ⟨Nat.le_of_ble_eq_true rfl, Nat.le_of_ble_eq_true rfl⟩ ?_
                      refine r_bipush (v := 13) C dX12_aWitness_183 (by decide) ?_
                      refine r_isub C dX12_aWitness_185 ?_
                      obtain ⟨t110, e111, hf1⟩ := ob hf1
                      refine r_istore_n (lv' := [(3, .int t110), (4, .int t104), (0, .ref t63), (2, .int t64)]) C dX12_aWitness_186 (by decide) e111 rfl ?_
                      refine r_goto (tgt := 119) C dX12_aWitness_187 (by decide) ?_
                      obtain rfl := so hf1
                      refine r_subk [2, 3, 0, 1] (lv' := [(0, .ref t63), (2, .int t64), (3, .int t110), (4, .int t104)]) rfl ?_
                      exact ih119 t110 t104 h97 hk119
                    · rw [if_pos c99] at hf1
                      obtain rfl := so hf1
                      obtain rfl := so (show some (.inr (.inl h97) : (aH) ⊕ (aH) ⊕ (Int32 × aH)) = some y79 from hk119)
                      dsimp only at hf0
                      refine r_iconst (v := 0) C dX12_aWitness_162 (by decide) ?_
                      obtain rfl := so hf0
                      exact r_zret C dX12_aWitness_163 (Or.inl rfl)
                  · rw [if_neg c89] at hf1
                    obtain rfl := so hf1
                    obtain rfl := so (show some (.inl h82 : (aH) ⊕ (aH) ⊕ (Int32 × aH)) = some y79 from hk119)
                    dsimp only at hf0
                    refine r_aload_n C dX12_aWitness_139 rfl ?_
                    refine r_iconst (v := 5) C dX12_aWitness_140 (by decide) ?_
                    obtain ⟨u113, e112, hf0⟩ := ob hf0
                    obtain ⟨t114, h115, e116, hf0⟩ := ob2 hf0
                    refine r_cV (ci := 12) (rest := []) (st2 := [.int t114]) C (s_X12_fails e116) mk_X12_fails rfl (ck_k e112) (by decide) im_X12_fails sl_X12_fails lk_X12_186 rfl rfl rfl dX12_aWitness_141 (Nat.le_of_ble_eq_true rfl) ⟨Nat.le_of_ble_eq_true rfl, Nat.le_of_ble_eq_true rfl⟩ ⟨Nat.le_of_ble_eq_true rfl, Nat.le_of_ble_eq_true rfl⟩ ?_
                    obtain ⟨t117, e118, hf0⟩ := ob hf0
                    obtain ⟨rfl, e118z⟩ := rZ_k e118
                    obtain rfl := so hf0
                    exact r_zret C dX12_aWitness_144 e118z
          refine r_subk [2, 3, 1, 0] (lv' := [(0, .ref t63), (2, .int t64), (3, .int t75), (4, .int (0 : Int32))]) rfl ?_
          exact L119 wN t75 (0 : Int32) h68 hl119
        · rw [if_neg c78] at hf0
          refine r_subk [1] (lv' := [(0, .ref t63)]) rfl ?_
          exact J110 h68 t63 hf0
    · rw [if_pos c70] at hf0
      refine r_iconst (v := 0) C dX12_aWitness_89 (by decide) ?_
      obtain rfl := so hf0
      exact r_zret C dX12_aWitness_90 (Or.inl rfl)
  refine r_aload_n C dX12_aWitness_0 rfl ?_
  obtain ⟨t119, e120, hf0⟩ := ob hf0
  refine r_getR C fk_X12_7 rfl dX12_aWitness_1 e120 ?_
  refine r_sipush (v := 1604) C dX12_aWitness_4 (by decide) ?_
  obtain ⟨t121, e122, hf0⟩ := ob hf0
  refine r_ldI C dX12_aWitness_7 e122 ?_
  refine r_istore_n (lv' := [(1, .int t121), (0, .ref v0)]) C dX12_aWitness_8 (by decide) rfl rfl ?_
  refine r_sipush (v := 1676) C dX12_aWitness_9 (by decide) ?_
  refine r_bipush (v := 6) C dX12_aWitness_12 (by decide) ?_
  refine r_iload_n C dX12_aWitness_14 rfl ?_
  refine r_imul C dX12_aWitness_15 ?_
  refine r_iadd C dX12_aWitness_16 ?_
  obtain ⟨t123, e124, hf0⟩ := ob hf0
  refine r_istore_n (lv' := [(2, .int t123), (1, .int t121), (0, .ref v0)]) C dX12_aWitness_17 (by decide) e124 rfl ?_
  refine r_iload_n C dX12_aWitness_18 rfl ?_
  refine r_iconst (v := 4) C dX12_aWitness_19 (by decide) ?_
  refine r_icmp_ne (tgt := 30) C dX12_aWitness_20 (by decide) (fun c125 => ?_) (fun c125 => ?_)
  · rw [if_neg c125] at hf0
    refine r_aload_n C dX12_aWitness_30 rfl ?_
    obtain ⟨u127, e126, hf0⟩ := ob hf0
    obtain ⟨h128, e129, hf0⟩ := ob hf0
    refine r_cV (ci := 12) (rest := []) (st2 := []) C (s_X12_ahead e129) mk_X12_ahead rfl (ck_k e126) (by decide) im_X12_ahead sl_X12_ahead lk_X12_180 rfl rfl rfl dX12_aWitness_31 (Nat.le_of_ble_eq_true rfl) ⟨Nat.le_of_ble_eq_true rfl, Nat.le_of_ble_eq_true rfl⟩ ⟨Nat.le_of_ble_eq_true rfl, Nat.le_of_ble_eq_true rfl⟩ ?_
    refine r_aload_n C dX12_aWitness_34 rfl ?_
    refine r_bipush (v := 40) C dX12_aWitness_35 (by decide) ?_
    refine r_iload_n C dX12_aWitness_37 rfl ?_
    obtain ⟨u131, e130, hf0⟩ := ob hf0
    obtain ⟨t132, h133, e134, hf0⟩ := ob2 hf0
    refine r_cV (ci := 12) (rest := []) (st2 := [.int t132]) C (s_X12_newName e134) mk_X12_newName rfl (ck_k e130) (by decide) im_X12_newName sl_X12_newName lk_X12_219 rfl rfl rfl dX12_aWitness_38 (Nat.le_of_ble_eq_true rfl) ⟨Nat.le_of_ble_eq_true rfl, Nat.le_of_ble_eq_true rfl⟩ ⟨Nat.le_of_ble_eq_true rfl, Nat.le_of_ble_eq_true rfl⟩ ?_
    refine r_ifne (tgt := 46) C dX12_aWitness_41 (by decide) (fun c135 => ?_) (fun c135 => ?_)
    · rw [if_neg c135] at hf0
      refine r_aload_n C dX12_aWitness_46 rfl ?_
      refine r_lds1 C dX12_aWitness_47 ?_
      obtain ⟨u137, e136, hf0⟩ := ob hf0
      obtain ⟨t138, e139, hf0⟩ := ob hf0
      refine r_cV (ci := 12) (rest := []) (st2 := [.int t138]) C (s_X12_inWords e139) mk_X12_inWords rfl (ck_k e136) (by decide) im_X12_inWords sl_X12_inWords lk_X12_189 rfl rfl rfl dX12_aWitness_49 (Nat.le_of_ble_eq_true rfl) ⟨Nat.le_of_ble_eq_true rfl, Nat.le_of_ble_eq_true rfl⟩ ⟨Nat.le_of_ble_eq_true rfl, Nat.le_of_ble_eq_true rfl⟩ ?_
      refine r_bipush (v := 7) C dX12_aWitness_52 (by decide) ?_
      refine r_icmp_ne (tgt := 78) C dX12_aWitness_54 (by decide) (fun c140 => ?_) (fun c140 => ?_)
      · rw [if_neg c140] at hf0
        refine r_subk [2, 0] (lv' := [(0, .ref v0), (2, .int t123)]) rfl ?_
        exact J78 h133 v0 t123 hf0
      · rw [if_pos c140] at hf0
        refine r_aload_n C dX12_aWitness_57 rfl ?_
        refine r_iload_n C dX12_aWitness_58 rfl ?_
        refine r_iconst (v := 4) C dX12_aWitness_59 (by decide) ?_
        refine r_iadd C dX12_aWitness_60 ?_
        refine r_iconst (v := 0) C dX12_aWitness_61 (by decide) ?_
        refine r_aload_n C dX12_aWitness_62 rfl ?_
        obtain ⟨t141, e142, hf0⟩ := ob hf0
        refine r_getR C fk_X12_7 rfl dX12_aWitness_63 e142 ?_
        refine r_sipush (v := 1600) C dX12_aWitness_66 (by decide) ?_
        obtain ⟨t143, e144, hf0⟩ := ob hf0
        refine r_ldI C dX12_aWitness_69 e144 ?_
        obtain ⟨u146, e145, hf0⟩ := ob hf0
        obtain ⟨t147, h148, e149, hf0⟩ := ob2 hf0
        refine r_cV (ci := 12) (rest := []) (st2 := [.int t147]) C (s_X12_several e149) mk_X12_several rfl (ck_k e145) (by decide) im_X12_several sl_X12_several lk_X12_274 rfl rfl rfl dX12_aWitness_70 (Nat.le_of_ble_eq_true rfl) ⟨Nat.le_of_ble_eq_true rfl, Nat.le_of_ble_eq_true rfl⟩ ⟨Nat.le_of_ble_eq_true rfl, Nat.le_of_ble_eq_true rfl⟩ ?_
        refine r_ifne (tgt := 78) C dX12_aWitness_73 (by decide) (fun c150 => ?_) (fun c150 => ?_)
        · rw [if_neg c150] at hf0
          refine r_subk [2, 0] (lv' := [(0, .ref v0), (2, .int t123)]) rfl ?_
          exact J78 h148 v0 t123 hf0
        · rw [if_pos c150] at hf0
          refine r_iconst (v := 0) C dX12_aWitness_76 (by decide) ?_
          obtain rfl := so hf0
          exact r_zret C dX12_aWitness_77 (Or.inl rfl)
    · rw [if_pos c135] at hf0
      refine r_iconst (v := 0) C dX12_aWitness_44 (by decide) ?_
      obtain rfl := so hf0
      exact r_zret C dX12_aWitness_45 (Or.inl rfl)
  · rw [if_pos c125] at hf0
    refine r_aload_n C dX12_aWitness_23 rfl ?_
    refine r_bipush (v := 6) C dX12_aWitness_24 (by decide) ?_
    obtain ⟨u152, e151, hf0⟩ := ob hf0
    obtain ⟨t153, h154, e155, hf0⟩ := ob2 hf0
    refine r_cV (ci := 12) (rest := []) (st2 := [.int t153]) C (s_X12_fails e155) mk_X12_fails rfl (ck_k e151) (by decide) im_X12_fails sl_X12_fails lk_X12_186 rfl rfl rfl dX12_aWitness_26 (Nat.le_of_ble_eq_true rfl) ⟨Nat.le_of_ble_eq_true rfl, Nat.le_of_ble_eq_true rfl⟩ ⟨Nat.le_of_ble_eq_true rfl, Nat.le_of_ble_eq_true rfl⟩ ?_
    obtain ⟨t156, e157, hf0⟩ := ob hf0
    obtain ⟨rfl, e157z⟩ := rZ_k e157
    obtain rfl := so hf0
    exact r_zret C dX12_aWitness_29 e157z
def f_X12_casePart_j74 (h : aH) (v0 : Nat) (v1 : Int32) : Option (Int32 × aH) := if v1 = 0 then some ((0 : Int32), h) else (ck h 12 v0).bind fun _ => bd2 (f_X12_wantSign h v0 (59 : Int32)) fun t1 h2 => if t1 = 0 then some ((0 : Int32), h2) else some ((1 : Int32), h2)
def f_X12_casePart (h : aH) (v0 : Nat) : Option (Int32 × aH) := (ck h 12 v0).bind fun _ => (f_X12_inWords h v0 1).bind fun t3 => if t3 = (0 : Int32) then (ck h 12 v0).bind fun _ => bd2 (f_X12_aFact h v0) fun t13 h14 => f_X12_casePart_j74 h14 v0 t13 else if t3 = (1 : Int32) then (ck h 12 v0).bind fun _ => bd2 (f_X12_aNever h v0) fun t11 h12 => f_X12_casePart_j74 h12 v0 t11 else if t3 = (2 : Int32) then (ck h 12 v0).bind fun _ => bd2 (f_X12_aQuestion h v0) fun t9 h10 => f_X12_casePart_j74 h10 v0 t9 else if t3 = (3 : Int32) then (ck h 12 v0).bind fun _ => bd2 (f_X12_aWitness h v0) fun t7 h8 => f_X12_casePart_j74 h8 v0 t7 else (ck h 12 v0).bind fun _ => bd2 (f_X12_fails h v0 (2 : Int32)) fun t4 h5 => (rZ t4).bind fun t6 => some (t6, h5)
theorem s_X12_casePart {h : aH} {v0 : Nat} {out : Int32 × aH} (hf0 : f_X12_casePart h v0 = some out) : EV 14 yX12_casePart cX12_casePart 2 (some .boolean) h [.ref v0] (some (.int out.1)) out.2 0 0 := by
  refine EV.of (own := RX12) (lv0 := [(0, .ref v0)]) (by decide +kernel) rfl rfl (Nat.le_of_ble_eq_true rfl) ?_
  intro p l e s m args below meth c D cA B Hb C hin
  unfold f_X12_casePart at hf0
  have J74 : ∀ (h1 : aH) (t2 : Nat) (t3 : Int32), f_X12_casePart_j74 h1 t2 t3 = some out → gW p l e (rmO 14 0 0) s m args below meth c (MQ below (eQ D cA B Hb out.2 (some (.int out.1))) args s 0 0 (fun q => B ≤ q)) D cA B Hb 2 h1 74 [(0, .ref t2), (1, .int t3)] [] 0 0 := by
    intro h1 t2 t3 hf0
    unfold f_X12_casePart_j74 at hf0
    refine r_iload_n C dX12_casePart_74 rfl ?_
    refine r_ifeq (tgt := 91) C dX12_casePart_75 (by decide) (fun c4 => ?_) (fun c4 => ?_)
    · rw [if_pos c4] at hf0
      refine r_iconst (v := 0) C dX12_casePart_91 (by decide) ?_
      obtain rfl := so hf0
      exact r_zret C dX12_casePart_92 (Or.inl rfl)
    · rw [if_neg c4] at hf0
      refine r_aload_n C dX12_casePart_78 rfl ?_
      refine r_bipush (v := 59) C dX12_casePart_79 (by decide) ?_
      obtain ⟨u6, e5, hf0⟩ := ob hf0
      obtain ⟨t7, h8, e9, hf0⟩ := ob2 hf0
      refine r_cV (ci := 12) (rest := []) (st2 := [.int t7]) C (s_X12_wantSign e9) mk_X12_wantSign rfl (ck_k e5) (by decide) im_X12_wantSign sl_X12_wantSign lk_X12_289 rfl rfl rfl dX12_casePart_81 (Nat.le_of_ble_eq_true rfl) ⟨Nat.le_of_ble_eq_true rfl, Nat.le_of_ble_eq_true rfl⟩ ⟨Nat.le_of_ble_eq_true rfl, Nat.le_of_ble_eq_true rfl⟩ ?_
      refine r_ifeq (tgt := 91) C dX12_casePart_84 (by decide) (fun c10 => ?_) (fun c10 => ?_)
      · rw [if_pos c10] at hf0
        refine r_iconst (v := 0) C dX12_casePart_91 (by decide) ?_
        obtain rfl := so hf0
        exact r_zret C dX12_casePart_92 (Or.inl rfl)
      · rw [if_neg c10] at hf0
        refine r_iconst (v := 1) C dX12_casePart_87 (by decide) ?_
        refine r_goto (tgt := 92) C dX12_casePart_88 (by decide) ?_
        obtain rfl := so hf0
        exact r_zret C dX12_casePart_92 (Or.inr rfl)
  refine r_aload_n C dX12_casePart_0 rfl ?_
  refine r_lds1 C dX12_casePart_1 ?_
  obtain ⟨u12, e11, hf0⟩ := ob hf0
  obtain ⟨t13, e14, hf0⟩ := ob hf0
  refine r_cV (ci := 12) (rest := []) (st2 := [.int t13]) C (s_X12_inWords e14) mk_X12_inWords rfl (ck_k e11) (by decide) im_X12_inWords sl_X12_inWords lk_X12_189 rfl rfl rfl dX12_casePart_3 (Nat.le_of_ble_eq_true rfl) ⟨Nat.le_of_ble_eq_true rfl, Nat.le_of_ble_eq_true rfl⟩ ⟨Nat.le_of_ble_eq_true rfl, Nat.le_of_ble_eq_true rfl⟩ ?_
  by_cases c15 : t13 = (0 : Int32)
  · rw [if_pos c15] at hf0
    refine r_tabIn (k := 0) (off := 30) (tgt := 36) C dX12_casePart_6 c15 (by decide) (by decide) (by decide) (by decide) ?_
    refine r_aload_n C dX12_casePart_36 rfl ?_
    obtain ⟨u17, e16, hf0⟩ := ob hf0
    obtain ⟨t18, h19, e20, hf0⟩ := ob2 hf0
    refine r_cV (ci := 12) (rest := []) (st2 := [.int t18]) C (s_X12_aFact e20) mk_X12_aFact rfl (ck_k e16) (by decide) im_X12_aFact sl_X12_aFact lk_X12_277 rfl rfl rfl dX12_casePart_37 (Nat.le_of_ble_eq_true rfl) ⟨Nat.le_of_ble_eq_true rfl, Nat.le_of_ble_eq_true rfl⟩ ⟨Nat.le_of_ble_eq_true rfl, Nat.le_of_ble_eq_true rfl⟩ ?_
    refine r_istore_n (lv' := [(1, .int t18), (0, .ref v0)]) C dX12_casePart_40 (by decide) rfl rfl ?_
    refine r_goto (tgt := 74) C dX12_casePart_41 (by decide) ?_
    refine r_subk [1, 0] (lv' := [(0, .ref v0), (1, .int t18)]) rfl ?_
    exact J74 h19 v0 t18 hf0
  · rw [if_neg c15] at hf0
    by_cases c21 : t13 = (1 : Int32)
    · rw [if_pos c21] at hf0
      refine r_tabIn (k := 1) (off := 38) (tgt := 44) C dX12_casePart_6 c21 (by decide) (by decide) (by decide) (by decide) ?_
      refine r_aload_n C dX12_casePart_44 rfl ?_
      obtain ⟨u23, e22, hf0⟩ := ob hf0
      obtain ⟨t24, h25, e26, hf0⟩ := ob2 hf0
      refine r_cV (ci := 12) (rest := []) (st2 := [.int t24]) C (s_X12_aNever e26) mk_X12_aNever rfl (ck_k e22) (by decide) im_X12_aNever sl_X12_aNever lk_X12_280 rfl rfl rfl dX12_casePart_45 (Nat.le_of_ble_eq_true rfl) ⟨Nat.le_of_ble_eq_true rfl, Nat.le_of_ble_eq_true rfl⟩ ⟨Nat.le_of_ble_eq_true rfl, Nat.le_of_ble_eq_true rfl⟩ ?_
      refine r_istore_n (lv' := [(1, .int t24), (0, .ref v0)]) C dX12_casePart_48 (by decide) rfl rfl ?_
      refine r_goto (tgt := 74) C dX12_casePart_49 (by decide) ?_
      refine r_subk [1, 0] (lv' := [(0, .ref v0), (1, .int t24)]) rfl ?_
      exact J74 h25 v0 t24 hf0
    · rw [if_neg c21] at hf0
      by_cases c27 : t13 = (2 : Int32)
      · rw [if_pos c27] at hf0
        refine r_tabIn (k := 2) (off := 46) (tgt := 52) C dX12_casePart_6 c27 (by decide) (by decide) (by decide) (by decide) ?_
        refine r_aload_n C dX12_casePart_52 rfl ?_
        obtain ⟨u29, e28, hf0⟩ := ob hf0
        obtain ⟨t30, h31, e32, hf0⟩ := ob2 hf0
        refine r_cV (ci := 12) (rest := []) (st2 := [.int t30]) C (s_X12_aQuestion e32) mk_X12_aQuestion rfl (ck_k e28) (by decide) im_X12_aQuestion sl_X12_aQuestion lk_X12_283 rfl rfl rfl dX12_casePart_53 (Nat.le_of_ble_eq_true rfl) ⟨Nat.le_of_ble_eq_true rfl, Nat.le_of_ble_eq_true rfl⟩ ⟨Nat.le_of_ble_eq_true rfl, Nat.le_of_ble_eq_true rfl⟩ ?_
        refine r_istore_n (lv' := [(1, .int t30), (0, .ref v0)]) C dX12_casePart_56 (by decide) rfl rfl ?_
        refine r_goto (tgt := 74) C dX12_casePart_57 (by decide) ?_
        refine r_subk [1, 0] (lv' := [(0, .ref v0), (1, .int t30)]) rfl ?_
        exact J74 h31 v0 t30 hf0
      · rw [if_neg c27] at hf0
        by_cases c33 : t13 = (3 : Int32)
        · rw [if_pos c33] at hf0
          refine r_tabIn (k := 3) (off := 54) (tgt := 60) C dX12_casePart_6 c33 (by decide) (by decide) (by decide) (by decide) ?_
          refine r_aload_n C dX12_casePart_60 rfl ?_
          obtain ⟨u35, e34, hf0⟩ := ob hf0
          obtain ⟨t36, h37, e38, hf0⟩ := ob2 hf0
          refine r_cV (ci := 12) (rest := []) (st2 := [.int t36]) C (s_X12_aWitness e38) mk_X12_aWitness rfl (ck_k e34) (by decide) im_X12_aWitness sl_X12_aWitness lk_X12_286 rfl rfl rfl dX12_casePart_61 (Nat.le_of_ble_eq_true rfl) ⟨Nat.le_of_ble_eq_true rfl, Nat.le_of_ble_eq_true rfl⟩ ⟨Nat.le_of_ble_eq_true rfl, Nat.le_of_ble_eq_true rfl⟩ ?_
          refine r_istore_n (lv' := [(1, .int t36), (0, .ref v0)]) C dX12_casePart_64 (by decide) rfl rfl ?_
          refine r_goto (tgt := 74) C dX12_casePart_65 (by decide) ?_
          refine r_subk [1, 0] (lv' := [(0, .ref v0), (1, .int t36)]) rfl ?_
          exact J74 h37 v0 t36 hf0
        · rw [if_neg c33] at hf0
          refine r_tabOut (tgt := 68) C dX12_casePart_6 (tsw (fun j j1 j2 => ?_)) (by decide) ?_
          · rcases (show j = 0 ∨ j = 1 ∨ j = 2 ∨ j = 3 by omega) with rfl | rfl | rfl | rfl
            · exact tsw_ne c15
            · exact tsw_ne c21
            · exact tsw_ne c27
            · exact tsw_ne c33
          · refine r_aload_n C dX12_casePart_68 rfl ?_
            refine r_iconst (v := 2) C dX12_casePart_69 (by decide) ?_
            obtain ⟨u40, e39, hf0⟩ := ob hf0
            obtain ⟨t41, h42, e43, hf0⟩ := ob2 hf0
            refine r_cV (ci := 12) (rest := []) (st2 := [.int t41]) C (s_X12_fails e43) mk_X12_fails rfl (ck_k e39) (by decide) im_X12_fails sl_X12_fails lk_X12_186 rfl rfl rfl dX12_casePart_70 (Nat.le_of_ble_eq_true rfl) ⟨Nat.le_of_ble_eq_true rfl, Nat.le_of_ble_eq_true rfl⟩ ⟨Nat.le_of_ble_eq_true rfl, Nat.le_of_ble_eq_true rfl⟩ ?_
            obtain ⟨t44, e45, hf0⟩ := ob hf0
            obtain ⟨rfl, e45z⟩ := rZ_k e45
            obtain rfl := so hf0
            exact r_zret C dX12_casePart_73 e45z
def f_X12_size_j32 (h : aH) (v0 : Nat) (v1 : Int32) (v3 : Int32) (s0 : Int32) (s1 : Int32) : Option ((Int32 × Int32) ⊕ (Int32)) := (some (s0 + s1)).bind fun t1 => (some (v3 + (1 : Int32))).bind fun t2 => some (.inl (t1, t2))
def f_X12_size_b4 (h : aH) (v0 : Nat) (v1 : Int32) (v2 : Int32) (v3 : Int32) : Option ((Int32 × Int32) ⊕ (Int32)) := (gR h 12 v0 0).bind fun t3 => (lI h t3 (2 : Int32)).bind fun t4 => if t4 ≤ v3 then some (.inr v2) else (gR h 12 v0 1).bind fun t5 => (f_X12_inSet h t5 v1 v3).bind fun t6 => if t6 = 0 then f_X12_size_j32 h v0 v1 v3 v2 (0 : Int32) else f_X12_size_j32 h v0 v1 v3 v2 (1 : Int32)
def f_X12_size_l4 (h : aH) (v0 : Nat) (v1 : Int32) (v2 : Int32) (v3 : Int32) : Option (Int32) := whileL wN (fun q : Int32 × Int32 => f_X12_size_b4 h v0 v1 q.1 q.2) (v2, v3)
def f_X12_size (h : aH) (v0 : Nat) (v1 : Int32) : Option (Int32) := (f_X12_size_l4 h v0 v1 (0 : Int32) (0 : Int32)).bind fun t7 => some t7
theorem s_X12_size {h : aH} {v0 : Nat} {v1 : Int32} {out : Int32} (hf0 : f_X12_size h v0 v1 = some out) : EV 1 yX12_size cX12_size 4 (some .int) h [.ref v0, .int v1] (some (.int out)) h 0 0 := by
  refine EV.of (own := RX12) (lv0 := [(0, .ref v0), (1, .int v1)]) (by decide +kernel) rfl rfl (Nat.le_of_ble_eq_true rfl) ?_
  intro p l e s m args below meth c D cA B Hb C hin
  unfold f_X12_size at hf0
  refine r_iconst (v := 0) C dX12_size_0 (by decide) ?_
  refine r_istore_n (lv' := [(2, .int (0 : Int32)), (0, .ref v0), (1, .int v1)]) C dX12_size_1 (by decide) rfl rfl ?_
  refine r_iconst (v := 0) C dX12_size_2 (by decide) ?_
  refine r_istore_n (lv' := [(3, .int (0 : Int32)), (2, .int (0 : Int32)), (0, .ref v0), (1, .int v1)]) C dX12_size_3 (by decide) rfl rfl ?_
  obtain ⟨y1, hl4, hf0⟩ := ob hf0
  have L4 : ∀ (n : Nat) (t2 : Int32) (t3 : Int32), whileL n (fun q : Int32 × Int32 => f_X12_size_b4 h v0 v1 q.1 q.2) (t2, t3) = some y1 → gW p l e (rmO 1 0 0) s m args below meth c (MQ below (eQ D cA B Hb h (some (.int out))) args s 0 0 (fun q => B ≤ q)) D cA B Hb 4 h 4 [(0, .ref v0), (1, .int v1), (2, .int t2), (3, .int t3)] [] 0 0 := by
    intro n
    induction n with
    | zero => intro t2 t3 hz; cases hz
    | succ n ih4 =>
      intro t2 t3 hz
      obtain ⟨x4, hf1, hk4⟩ := wl hz
      replace hf1 : f_X12_size_b4 h v0 v1 t2 t3 = some x4 := hf1
      unfold f_X12_size_b4 at hf1
      have J32 : ∀ (t4 : Int32) (t5 : Int32) (t6 : Int32), f_X12_size_j32 h v0 v1 t4 t5 t6 = some x4 → gW p l e (rmO 1 0 0) s m args below meth c (MQ below (eQ D cA B Hb h (some (.int out))) args s 0 0 (fun q => B ≤ q)) D cA B Hb 4 h 32 [(0, .ref v0), (1, .int v1), (3, .int t4)] [.int t6, .int t5] 0 0 := by
        intro t4 t5 t6 hf1
        unfold f_X12_size_j32 at hf1
        refine r_iadd C dX12_size_32 ?_
        obtain ⟨t7, e8, hf1⟩ := ob hf1
        refine r_istore_n (lv' := [(2, .int t7), (0, .ref v0), (1, .int v1), (3, .int t4)]) C dX12_size_33 (by decide) e8 rfl ?_
        obtain ⟨t9, e10, hf1⟩ := ob hf1
        refine r_iinc (lv' := [(3, .int t9), (2, .int t7), (0, .ref v0), (1, .int v1)]) C dX12_size_34 rfl e10 (by decide) rfl ?_
        refine r_goto (tgt := 4) C dX12_size_37 (by decide) ?_
        obtain rfl := so hf1
        refine r_subk [2, 3, 1, 0] (lv' := [(0, .ref v0), (1, .int v1), (2, .int t7), (3, .int t9)]) rfl ?_
        exact ih4 t7 t9 hk4
      refine r_iload_n C dX12_size_4 rfl ?_
      refine r_aload_n C dX12_size_5 rfl ?_
      obtain ⟨t11, e12, hf1⟩ := ob hf1
      refine r_getR C fk_X12_7 rfl dX12_size_6 e12 ?_
      refine r_iconst (v := 2) C dX12_size_9 (by decide) ?_
      obtain ⟨t13, e14, hf1⟩ := ob hf1
      refine r_ldI C dX12_size_10 e14 ?_
      refine r_icmp_ge (tgt := 40) C dX12_size_11 (by decide) (fun c15 => ?_) (fun c15 => ?_)
      · rw [if_pos c15] at hf1
        obtain rfl := so hf1
        obtain rfl := so (show some t2 = some y1 from hk4)
        refine r_iload_n C dX12_size_40 rfl ?_
        obtain rfl := so hf0
        exact r_iret C dX12_size_41
      · rw [if_neg c15] at hf1
        refine r_iload_n C dX12_size_14 rfl ?_
        refine r_aload_n C dX12_size_15 rfl ?_
        obtain ⟨t16, e17, hf1⟩ := ob hf1
        refine r_getR C fk_X12_13 rfl dX12_size_16 e17 ?_
        refine r_iload_n C dX12_size_19 rfl ?_
        refine r_iload_n C dX12_size_20 rfl ?_
        obtain ⟨t18, e19, hf1⟩ := ob hf1
        refine r_cS (rest := [.int t2]) (st2 := [.int t18, .int t2]) C (s_X12_inSet e19) mk_X12_inSet sm_X12_inSet lk_X12_303 rfl rfl rfl dX12_size_21 (Nat.le_of_ble_eq_true rfl) ⟨Nat.le_of_ble_eq_true rfl, Nat.le_of_ble_eq_true rfl⟩ ⟨Nat.le_of_ble_eq_true rfl, Nat.le_of_ble_eq_true rfl⟩ ?_
        refine r_ifeq (tgt := 31) C dX12_size_24 (by decide) (fun c20 => ?_) (fun c20 => ?_)
        · rw [if_pos c20] at hf1
          refine r_iconst (v := 0) C dX12_size_31 (by decide) ?_
          refine r_subk [0, 1, 3] (lv' := [(0, .ref v0), (1, .int v1), (3, .int t3)]) rfl ?_
          exact J32 t3 t2 (0 : Int32) hf1
        · rw [if_neg c20] at hf1
          refine r_iconst (v := 1) C dX12_size_27 (by decide) ?_
          refine r_goto (tgt := 32) C dX12_size_28 (by decide) ?_
          refine r_subk [0, 1, 3] (lv' := [(0, .ref v0), (1, .int v1), (3, .int t3)]) rfl ?_
          exact J32 t3 t2 (1 : Int32) hf1
  refine r_subk [2, 3, 1, 0] (lv' := [(0, .ref v0), (1, .int v1), (2, .int (0 : Int32)), (3, .int (0 : Int32))]) rfl ?_
  exact L4 wN (0 : Int32) (0 : Int32) hl4
def f_X12_court_j89 (h : aH) (v0 : Nat) : Option (Int32 × aH) := (ck h 12 v0).bind fun _ => (f_X12_size h v0 (0 : Int32)).bind fun t1 => (ck h 12 v0).bind fun _ => bd2 (f_X12_taken h v0 t1) fun t2 h3 => some (t2, h3)
def f_X12_court_j85 (h : aH) (v0 : Nat) : Option (Int32 × aH) := (ck h 12 v0).bind fun _ => (f_X12_takes h v0).bind fun h4 => f_X12_court_j89 h4 v0
def f_X12_court_j63 (h : aH) (v0 : Nat) : Option (Int32 × aH) := (gI h 12 v0 19).bind fun t5 => if t5 = 0 then (gR h 12 v0 0).bind fun t6 => (lI h t6 (1603 : Int32)).bind fun t7 => if t7 = 0 then (ck h 12 v0).bind fun _ => (f_X12_finds h v0).bind fun h8 => f_X12_court_j85 h8 v0 else f_X12_court_j85 h v0 else f_X12_court_j89 h v0
def f_X12_court_b23 (v0 : Nat) (v2 : Int32) (h : aH) : Option ((Int32 × aH) ⊕ (aH)) := if (24 : Int32) ≤ v2 then some (.inr h) else (gR h 12 v0 22).bind fun t12 => (sI h t12 v2 (0 : Int32)).bind fun h13 => (some (v2 + (1 : Int32))).bind fun t14 => some (.inl (t14, h13))
def f_X12_court_l23 (v0 : Nat) (v2 : Int32) (h : aH) : Option (aH) := whileL wN (fun q : Int32 × aH => f_X12_court_b23 v0 q.1 q.2) (v2, h)
def f_X12_court_b44 (v0 : Nat) (v2 : Int32) (h : aH) : Option ((Int32 × aH) ⊕ (aH)) := if v2 = 0 then some (.inr h) else (gI h 12 v0 13).bind fun t16 => if t16 = 0 then some (.inr h) else (ck h 12 v0).bind fun _ => bd2 (f_X12_casePart h v0) fun t17 h18 => some (.inl (t17, h18))
def f_X12_court_l44 (v0 : Nat) (v2 : Int32) (h : aH) : Option (aH) := whileL wN (fun q : Int32 × aH => f_X12_court_b44 v0 q.1 q.2) (v2, h)
def f_X12_court (h : aH) (v0 : Nat) (v1 : Int32) : Option (Int32 × aH) := (ck h 12 v0).bind fun _ => bd2 (f_X12_begins h v0 v1 (900 : Int32)) fun t9 h10 => if t9 = 0 then (ck h10 12 v0).bind fun _ => bd2 (f_X12_refuse h10 v0 (1 : Int32)) fun t20 h21 => some (t20, h21) else (ck h10 12 v0).bind fun _ => (f_X12_asNew h10 v0).bind fun h11 => (f_X12_court_l23 v0 (0 : Int32) h11).bind fun h15 => (f_X12_court_l44 v0 (1 : Int32) h15).bind fun h19 => f_X12_court_j63 h19 v0
theorem s_X12_court {h : aH} {v0 : Nat} {v1 : Int32} {out : Int32 × aH} (hf0 : f_X12_court h v0 v1 = some out) : EV 15 yX12_court cX12_court 3 (some .int) h [.ref v0, .int v1] (some (.int out.1)) out.2 0 0 := by
  refine EV.of (own := RX12) (lv0 := [(0, .ref v0), (1, .int v1)]) (by decide +kernel) rfl rfl (Nat.le_of_ble_eq_true rfl) ?_
  intro p l e s m args below meth c D cA B Hb C hin
  unfold f_X12_court at hf0
  have J89 : ∀ (h1 : aH) (t2 : Nat), f_X12_court_j89 h1 t2 = some out → gW p l e (rmO 15 0 0) s m args below meth c (MQ below (eQ D cA B Hb out.2 (some (.int out.1))) args s 0 0 (fun q => B ≤ q)) D cA B Hb 3 h1 89 [(0, .ref t2)] [] 0 0 := by
    intro h1 t2 hf0
    unfold f_X12_court_j89 at hf0
    refine r_aload_n C dX12_court_89 rfl ?_
    refine r_aload_n C dX12_court_90 rfl ?_
    refine r_iconst (v := 0) C dX12_court_91 (by decide) ?_
    obtain ⟨u4, e3, hf0⟩ := ob hf0
    obtain ⟨t5, e6, hf0⟩ := ob hf0
    refine r_cV (ci := 12) (rest := [.ref t2]) (st2 := [.int t5, .ref t2]) C (s_X12_size e6) mk_X12_size rfl (ck_k e3) (by decide) im_X12_size sl_X12_size lk_X12_298 rfl rfl rfl dX12_court_92 (Nat.le_of_ble_eq_true rfl) ⟨Nat.le_of_ble_eq_true rfl, Nat.le_of_ble_eq_true rfl⟩ ⟨Nat.le_of_ble_eq_true rfl, Nat.le_of_ble_eq_true rfl⟩ ?_
    obtain ⟨u8, e7, hf0⟩ := ob hf0
    obtain ⟨t9, h10, e11, hf0⟩ := ob2 hf0
    refine r_cV (ci := 12) (rest := []) (st2 := [.int t9]) C (s_X12_taken e11) mk_X12_taken rfl (ck_k e7) (by decide) im_X12_taken sl_X12_taken lk_X12_300 rfl rfl rfl dX12_court_95 (Nat.le_of_ble_eq_true rfl) ⟨Nat.le_of_ble_eq_true rfl, Nat.le_of_ble_eq_true rfl⟩ ⟨Nat.le_of_ble_eq_true rfl, Nat.le_of_ble_eq_true rfl⟩ ?_
    obtain rfl := so hf0
    exact r_iret C dX12_court_98
  have J85 : ∀ (h12 : aH) (t13 : Nat), f_X12_court_j85 h12 t13 = some out → gW p l e (rmO 15 0 0) s m args below meth c (MQ below (eQ D cA B Hb out.2 (some (.int out.1))) args s 0 0 (fun q => B ≤ q)) D cA B Hb 3 h12 85 [(0, .ref t13)] [] 0 0 := by
    intro h12 t13 hf0
    unfold f_X12_court_j85 at hf0
    refine r_aload_n C dX12_court_85 rfl ?_
    obtain ⟨u15, e14, hf0⟩ := ob hf0
    obtain ⟨h16, e17, hf0⟩ := ob hf0
    refine r_cV (ci := 12) (rest := []) (st2 := []) C (s_X12_takes e17) mk_X12_takes rfl (ck_k e14) (by decide) im_X12_takes sl_X12_takes lk_X12_97 rfl rfl rfl dX12_court_86 (Nat.le_of_ble_eq_true rfl) ⟨Nat.le_of_ble_eq_true rfl, Nat.le_of_ble_eq_true rfl⟩ ⟨Nat.le_of_ble_eq_true rfl, Nat.le_of_ble_eq_true rfl⟩ ?_
    exact J89 h16 t13 hf0
  have J63 : ∀ (h18 : aH) (t19 : Nat), f_X12_court_j63 h18 t19 = some out → gW p l e (rmO 15 0 0) s m args below meth c (MQ below (eQ D cA B Hb out.2 (some (.int out.1))) args s 0 0 (fun q => B ≤ q)) D cA B Hb 3 h18 63 [(0, .ref t19)] [] 0 0 := by
    intro h18 t19 hf0
    unfold f_X12_court_j63 at hf0
    refine r_aload_n C dX12_court_63 rfl ?_
    obtain ⟨t20, e21, hf0⟩ := ob hf0
    refine r_getI C fk_X12_174 rfl dX12_court_64 e21 ?_
    refine r_ifne (tgt := 89) C dX12_court_67 (by decide) (fun c22 => ?_) (fun c22 => ?_)
    · rw [if_neg c22] at hf0
      exact J89 h18 t19 hf0
    · rw [if_pos c22] at hf0
      refine r_aload_n C dX12_court_70 rfl ?_
      obtain ⟨t23, e24, hf0⟩ := ob hf0
      refine r_getR C fk_X12_7 rfl dX12_court_71 e24 ?_
      refine r_sipush (v := 1603) C dX12_court_74 (by decide) ?_
      obtain ⟨t25, e26, hf0⟩ := ob hf0
      refine r_ldI C dX12_court_77 e26 ?_
      refine r_ifne (tgt := 85) C dX12_court_78 (by decide) (fun c27 => ?_) (fun c27 => ?_)
      · rw [if_neg c27] at hf0
        exact J85 h18 t19 hf0
      · rw [if_pos c27] at hf0
        refine r_aload_n C dX12_court_81 rfl ?_
        obtain ⟨u29, e28, hf0⟩ := ob hf0
        obtain ⟨h30, e31, hf0⟩ := ob hf0
        refine r_cV (ci := 12) (rest := []) (st2 := []) C (s_X12_finds e31) mk_X12_finds rfl (ck_k e28) (by decide) im_X12_finds sl_X12_finds lk_X12_271 rfl rfl rfl dX12_court_82 (Nat.le_of_ble_eq_true rfl) ⟨Nat.le_of_ble_eq_true rfl, Nat.le_of_ble_eq_true rfl⟩ ⟨Nat.le_of_ble_eq_true rfl, Nat.le_of_ble_eq_true rfl⟩ ?_
        exact J85 h30 t19 hf0
  refine r_aload_n C dX12_court_0 rfl ?_
  refine r_iload_n C dX12_court_1 rfl ?_
  refine r_sipush (v := 900) C dX12_court_2 (by decide) ?_
  obtain ⟨u33, e32, hf0⟩ := ob hf0
  obtain ⟨t34, h35, e36, hf0⟩ := ob2 hf0
  refine r_cV (ci := 12) (rest := []) (st2 := [.int t34]) C (s_X12_begins e36) mk_X12_begins rfl (ck_k e32) (by decide) im_X12_begins sl_X12_begins lk_X12_292 rfl rfl rfl dX12_court_5 (Nat.le_of_ble_eq_true rfl) ⟨Nat.le_of_ble_eq_true rfl, Nat.le_of_ble_eq_true rfl⟩ ⟨Nat.le_of_ble_eq_true rfl, Nat.le_of_ble_eq_true rfl⟩ ?_
  refine r_ifne (tgt := 17) C dX12_court_8 (by decide) (fun c37 => ?_) (fun c37 => ?_)
  · rw [if_neg c37] at hf0
    refine r_aload_n C dX12_court_17 rfl ?_
    obtain ⟨u39, e38, hf0⟩ := ob hf0
    obtain ⟨h40, e41, hf0⟩ := ob hf0
    refine r_cV (ci := 12) (rest := []) (st2 := []) C (s_X12_asNew e41) mk_X12_asNew rfl (ck_k e38) (by decide) im_X12_asNew sl_X12_asNew lk_X12_94 rfl rfl rfl dX12_court_18 (Nat.le_of_ble_eq_true rfl) ⟨Nat.le_of_ble_eq_true rfl, Nat.le_of_ble_eq_true rfl⟩ ⟨Nat.le_of_ble_eq_true rfl, Nat.le_of_ble_eq_true rfl⟩ ?_
    refine r_iconst (v := 0) C dX12_court_21 (by decide) ?_
    refine r_istore_n (lv' := [(2, .int (0 : Int32)), (0, .ref v0), (1, .int v1)]) C dX12_court_22 (by decide) rfl rfl ?_
    obtain ⟨y42, hl23, hf0⟩ := ob hf0
    have L23 : ∀ (n : Nat) (t43 : Int32) (h44 : aH), whileL n (fun q : Int32 × aH => f_X12_court_b23 v0 q.1 q.2) (t43, h44) = some y42 → gW p l e (rmO 15 0 0) s m args below meth c (MQ below (eQ D cA B Hb out.2 (some (.int out.1))) args s 0 0 (fun q => B ≤ q)) D cA B Hb 3 h44 23 [(0, .ref v0), (2, .int t43)] [] 0 0 := by
      intro n
      induction n with
      | zero => intro t43 h44 hz; cases hz
      | succ n ih23 =>
        intro t43 h44 hz
        obtain ⟨x23, hf1, hk23⟩ := wl hz
        replace hf1 : f_X12_court_b23 v0 t43 h44 = some x23 := hf1
        unfold f_X12_court_b23 at hf1
        refine r_iload_n C dX12_court_23 rfl ?_
        refine r_bipush (v := 24) C dX12_court_24 (by decide) ?_
        refine r_icmp_ge (tgt := 42) C dX12_court_26 (by decide) (fun c45 => ?_) (fun c45 => ?_)
        · rw [if_pos c45] at hf1
          obtain rfl := so hf1
          obtain rfl := so (show some h44 = some y42 from hk23)
          refine r_iconst (v := 1) C dX12_court_42 (by decide) ?_
          refine r_istore_n (lv' := [(2, .int (1 : Int32)), (0, .ref v0)]) C dX12_court_43 (by decide) rfl rfl ?_
          obtain ⟨y46, hl44, hf0⟩ := ob hf0
          have L44 : ∀ (n : Nat) (t47 : Int32) (h48 : aH), whileL n (fun q : Int32 × aH => f_X12_court_b44 v0 q.1 q.2) (t47, h48) = some y46 → gW p l e (rmO 15 0 0) s m args below meth c (MQ below (eQ D cA B Hb out.2 (some (.int out.1))) args s 0 0 (fun q => B ≤ q)) D cA B Hb 3 h48 44 [(0, .ref v0), (2, .int t47)] [] 0 0 := by
            intro n
            induction n with
            | zero => intro t47 h48 hz; cases hz
            | succ n ih44 =>
              intro t47 h48 hz
              obtain ⟨x44, hf1, hk44⟩ := wl hz
              replace hf1 : f_X12_court_b44 v0 t47 h48 = some x44 := hf1
              unfold f_X12_court_b44 at hf1
              refine r_iload_n C dX12_court_44 rfl ?_
              refine r_ifeq (tgt := 63) C dX12_court_45 (by decide) (fun c49 => ?_) (fun c49 => ?_)
              · rw [if_pos c49] at hf1
                obtain rfl := so hf1
                obtain rfl := so (show some h48 = some y46 from hk44)
                refine r_subk [0] (lv' := [(0, .ref v0)]) rfl ?_
                exact J63 h48 v0 hf0
              · rw [if_neg c49] at hf1
                refine r_aload_n C dX12_court_48 rfl ?_
                obtain ⟨t50, e51, hf1⟩ := ob hf1
                refine r_getI C fk_X12_149 rfl dX12_court_49 e51 ?_
                refine r_ifeq (tgt := 63) C dX12_court_52 (by decide) (fun c52 => ?_) (fun c52 => ?_)
                · rw [if_pos c52] at hf1
                  obtain rfl := so hf1
                  obtain rfl := so (show some h48 = some y46 from hk44)
                  refine r_subk [0] (lv' := [(0, .ref v0)]) rfl ?_
                  exact J63 h48 v0 hf0
                · rw [if_neg c52] at hf1
                  refine r_aload_n C dX12_court_55 rfl ?_
                  obtain ⟨u54, e53, hf1⟩ := ob hf1
                  obtain ⟨t55, h56, e57, hf1⟩ := ob2 hf1
                  refine r_cV (ci := 12) (rest := []) (st2 := [.int t55]) C (s_X12_casePart e57) mk_X12_casePart rfl (ck_k e53) (by decide) im_X12_casePart sl_X12_casePart lk_X12_295 rfl rfl rfl dX12_court_56 (Nat.le_of_ble_eq_true rfl) ⟨Nat.le_of_ble_eq_true rfl, Nat.le_of_ble_eq_true rfl⟩ ⟨Nat.le_of_ble_eq_true rfl, Nat.le_of_ble_eq_true rfl⟩ ?_
                  refine r_istore_n (lv' := [(2, .int t55), (0, .ref v0)]) C dX12_court_59 (by decide) rfl rfl ?_
                  refine r_goto (tgt := 44) C dX12_court_60 (by decide) ?_
                  obtain rfl := so hf1
                  refine r_subk [1, 0] (lv' := [(0, .ref v0), (2, .int t55)]) rfl ?_
                  exact ih44 t55 h56 hk44
          refine r_subk [1, 0] (lv' := [(0, .ref v0), (2, .int (1 : Int32))]) rfl ?_
          exact L44 wN (1 : Int32) h44 hl44
        · rw [if_neg c45] at hf1
          refine r_aload_n C dX12_court_29 rfl ?_
          obtain ⟨t58, e59, hf1⟩ := ob hf1
          refine r_getR C fk_X12_47 rfl dX12_court_30 e59 ?_
          refine r_iload_n C dX12_court_33 rfl ?_
          refine r_iconst (v := 0) C dX12_court_34 (by decide) ?_
          obtain ⟨h60, e61, hf1⟩ := ob hf1
          refine r_stI C dX12_court_35 e61 ?_
          obtain ⟨t62, e63, hf1⟩ := ob hf1
          refine r_iinc (lv' := [(2, .int t62), (0, .ref v0)]) C dX12_court_36 rfl e63 (by decide) rfl ?_
          refine r_goto (tgt := 23) C dX12_court_39 (by decide) ?_
          obtain rfl := so hf1
          refine r_subk [1, 0] (lv' := [(0, .ref v0), (2, .int t62)]) rfl ?_
          exact ih23 t62 h60 hk23
    refine r_subk [1, 0] (lv' := [(0, .ref v0), (2, .int (0 : Int32))]) rfl ?_
    exact L23 wN (0 : Int32) h40 hl23
  · rw [if_pos c37] at hf0
    refine r_aload_n C dX12_court_11 rfl ?_
    refine r_iconst (v := 1) C dX12_court_12 (by decide) ?_
    obtain ⟨u65, e64, hf0⟩ := ob hf0
    obtain ⟨t66, h67, e68, hf0⟩ := ob2 hf0
    refine r_cV (ci := 12) (rest := []) (st2 := [.int t66]) C (s_X12_refuse e68) mk_X12_refuse rfl (ck_k e64) (by decide) im_X12_refuse sl_X12_refuse lk_X12_197 rfl rfl rfl dX12_court_13 (Nat.le_of_ble_eq_true rfl) ⟨Nat.le_of_ble_eq_true rfl, Nat.le_of_ble_eq_true rfl⟩ ⟨Nat.le_of_ble_eq_true rfl, Nat.le_of_ble_eq_true rfl⟩ ?_
    obtain rfl := so hf0
    exact r_iret C dX12_court_16
def f_X12_name (h : aH) (v0 : Nat) (v1 : Int32) (v2 : Int32) (v3 : Int32) : Option (Int32 × aH) := (ck h 12 v0).bind fun _ => bd2 (f_X12_oldName h v0 (0 : Int32) v2 v3) fun t1 h2 => if t1 = 0 then some ((0 : Int32), h2) else (gR h2 12 v0 0).bind fun t3 => (gI h2 12 v0 21).bind fun t4 => (sI h2 t3 v1 t4).bind fun h5 => (ck h5 12 v0).bind fun _ => (f_X12_ahead h5 v0).bind fun h6 => some ((1 : Int32), h6)
theorem s_X12_name {h : aH} {v0 : Nat} {v1 : Int32} {v2 : Int32} {v3 : Int32} {out : Int32 × aH} (hf0 : f_X12_name h v0 v1 v2 v3 = some out) : EV 11 yX12_name cX12_name 4 (some .boolean) h [.ref v0, .int v1, .int v2, .int v3] (some (.int out.1)) out.2 0 0 := by
  refine EV.of (own := RX12) (lv0 := [(0, .ref v0), (1, .int v1), (2, .int v2), (3, .int v3)]) (by decide +kernel) rfl rfl (Nat.le_of_ble_eq_true rfl) ?_
  intro p l e s m args below meth c D cA B Hb C hin
  unfold f_X12_name at hf0
  refine r_aload_n C dX12_name_0 rfl ?_
  refine r_iconst (v := 0) C dX12_name_1 (by decide) ?_
  refine r_iload_n C dX12_name_2 rfl ?_
  refine r_iload_n C dX12_name_3 rfl ?_
  obtain ⟨u2, e1, hf0⟩ := ob hf0
  obtain ⟨t3, h4, e5, hf0⟩ := ob2 hf0
  refine r_cV (ci := 12) (rest := []) (st2 := [.int t3]) C (s_X12_oldName e5) mk_X12_oldName rfl (ck_k e1) (by decide) im_X12_oldName sl_X12_oldName lk_X12_231 rfl rfl rfl dX12_name_4 (Nat.le_of_ble_eq_true rfl) ⟨Nat.le_of_ble_eq_true rfl, Nat.le_of_ble_eq_true rfl⟩ ⟨Nat.le_of_ble_eq_true rfl, Nat.le_of_ble_eq_true rfl⟩ ?_
  refine r_ifne (tgt := 12) C dX12_name_7 (by decide) (fun c6 => ?_) (fun c6 => ?_)
  · rw [if_neg c6] at hf0
    refine r_aload_n C dX12_name_12 rfl ?_
    obtain ⟨t7, e8, hf0⟩ := ob hf0
    refine r_getR C fk_X12_7 rfl dX12_name_13 e8 ?_
    refine r_iload_n C dX12_name_16 rfl ?_
    refine r_aload_n C dX12_name_17 rfl ?_
    obtain ⟨t9, e10, hf0⟩ := ob hf0
    refine r_getI C fk_X12_216 rfl dX12_name_18 e10 ?_
    obtain ⟨h11, e12, hf0⟩ := ob hf0
    refine r_stI C dX12_name_21 e12 ?_
    refine r_aload_n C dX12_name_22 rfl ?_
    obtain ⟨u14, e13, hf0⟩ := ob hf0
    obtain ⟨h15, e16, hf0⟩ := ob hf0
    refine r_cV (ci := 12) (rest := []) (st2 := []) C (s_X12_ahead e16) mk_X12_ahead rfl (ck_k e13) (by decide) im_X12_ahead sl_X12_ahead lk_X12_180 rfl rfl rfl dX12_name_23 (Nat.le_of_ble_eq_true rfl) ⟨Nat.le_of_ble_eq_true rfl, Nat.le_of_ble_eq_true rfl⟩ ⟨Nat.le_of_ble_eq_true rfl, Nat.le_of_ble_eq_true rfl⟩ ?_
    refine r_iconst (v := 1) C dX12_name_26 (by decide) ?_
    obtain rfl := so hf0
    exact r_zret C dX12_name_27 (Or.inr rfl)
  · rw [if_pos c6] at hf0
    refine r_iconst (v := 0) C dX12_name_10 (by decide) ?_
    obtain rfl := so hf0
    exact r_zret C dX12_name_11 (Or.inl rfl)
def f_X12_aTest_j19 (h : aH) (v0 : Nat) : Option (Int32 × aH) := (ck h 12 v0).bind fun _ => bd2 (f_X12_fails h v0 (2 : Int32)) fun t1 h2 => (rZ t1).bind fun t3 => some (t3, h2)
def f_X12_aTest (h : aH) (v0 : Nat) (v1 : Int32) : Option (Int32 × aH) := (ck h 12 v0).bind fun _ => (f_X12_inWords h v0 1).bind fun t4 => if t4 < (22 : Int32) then f_X12_aTest_j19 h v0 else if t4 ≤ (25 : Int32) then (gR h 12 v0 0).bind fun t5 => (sI h t5 v1 ((2100 : Int32) + t4)).bind fun h6 => (ck h6 12 v0).bind fun _ => (f_X12_ahead h6 v0).bind fun h7 => if t4 = (25 : Int32) then (ck h7 12 v0).bind fun _ => bd2 (f_X12_number h7 v0 (v1 + (1 : Int32)) (0 : Int32) (256 : Int32)) fun t13 h14 => (rZ t13).bind fun t15 => some (t15, h14) else (gR h7 12 v0 0).bind fun t8 => (lI h7 t8 (3 : Int32)).bind fun t9 => (ck h7 12 v0).bind fun _ => bd2 (f_X12_name h7 v0 (v1 + (1 : Int32)) (28 : Int32) t9) fun t10 h11 => (rZ t10).bind fun t12 => some (t12, h11) else f_X12_aTest_j19 h v0
theorem s_X12_aTest {h : aH} {v0 : Nat} {v1 : Int32} {out : Int32 × aH} (hf0 : f_X12_aTest h v0 v1 = some out) : EV 12 yX12_aTest cX12_aTest 3 (some .boolean) h [.ref v0, .int v1] (some (.int out.1)) out.2 0 0 := by
  refine EV.of (own := RX12) (lv0 := [(0, .ref v0), (1, .int v1)]) (by decide +kernel) rfl rfl (Nat.le_of_ble_eq_true rfl) ?_
  intro p l e s m args below meth c D cA B Hb C hin
  unfold f_X12_aTest at hf0
  have J19 : ∀ (h1 : aH) (t2 : Nat), f_X12_aTest_j19 h1 t2 = some out → gW p l e (rmO 12 0 0) s m args below meth c (MQ below (eQ D cA B Hb out.2 (some (.int out.1))) args s 0 0 (fun q => B ≤ q)) D cA B Hb 3 h1 19 [(0, .ref t2)] [] 0 0 := by
    intro h1 t2 hf0
    unfold f_X12_aTest_j19 at hf0
    refine r_aload_n C dX12_aTest_19 rfl ?_
    refine r_iconst (v := 2) C dX12_aTest_20 (by decide) ?_
    obtain ⟨u4, e3, hf0⟩ := ob hf0
    obtain ⟨t5, h6, e7, hf0⟩ := ob2 hf0
    refine r_cV (ci := 12) (rest := []) (st2 := [.int t5]) C (s_X12_fails e7) mk_X12_fails rfl (ck_k e3) (by decide) im_X12_fails sl_X12_fails lk_X12_186 rfl rfl rfl dX12_aTest_21 (Nat.le_of_ble_eq_true rfl) ⟨Nat.le_of_ble_eq_true rfl, Nat.le_of_ble_eq_true rfl⟩ ⟨Nat.le_of_ble_eq_true rfl, Nat.le_of_ble_eq_true rfl⟩ ?_
    obtain ⟨t8, e9, hf0⟩ := ob hf0
    obtain ⟨rfl, e9z⟩ := rZ_k e9
    obtain rfl := so hf0
    exact r_zret C dX12_aTest_24 e9z
  refine r_aload_n C dX12_aTest_0 rfl ?_
  refine r_lds1 C dX12_aTest_1 ?_
  obtain ⟨u11, e10, hf0⟩ := ob hf0
  obtain ⟨t12, e13, hf0⟩ := ob hf0
  refine r_cV (ci := 12) (rest := []) (st2 := [.int t12]) C (s_X12_inWords e13) mk_X12_inWords rfl (ck_k e10) (by decide) im_X12_inWords sl_X12_inWords lk_X12_189 rfl rfl rfl dX12_aTest_3 (Nat.le_of_ble_eq_true rfl) ⟨Nat.le_of_ble_eq_true rfl, Nat.le_of_ble_eq_true rfl⟩ ⟨Nat.le_of_ble_eq_true rfl, Nat.le_of_ble_eq_true rfl⟩ ?_
  refine r_istore_n (lv' := [(2, .int t12), (0, .ref v0), (1, .int v1)]) C dX12_aTest_6 (by decide) rfl rfl ?_
  refine r_iload_n C dX12_aTest_7 rfl ?_
  refine r_bipush (v := 22) C dX12_aTest_8 (by decide) ?_
  refine r_icmp_lt (tgt := 19) C dX12_aTest_10 (by decide) (fun c14 => ?_) (fun c14 => ?_)
  · rw [if_pos c14] at hf0
    refine r_subk [1] (lv' := [(0, .ref v0)]) rfl ?_
    exact J19 h v0 hf0
  · rw [if_neg c14] at hf0
    refine r_iload_n C dX12_aTest_13 rfl ?_
    refine r_bipush (v := 25) C dX12_aTest_14 (by decide) ?_
    refine r_icmp_le (tgt := 25) C dX12_aTest_16 (by decide) (fun c15 => ?_) (fun c15 => ?_)
    · rw [if_pos c15] at hf0
      refine r_aload_n C dX12_aTest_25 rfl ?_
      obtain ⟨t16, e17, hf0⟩ := ob hf0
      refine r_getR C fk_X12_7 rfl dX12_aTest_26 e17 ?_
      refine r_iload_n C dX12_aTest_29 rfl ?_
      refine r_sipush (v := 2100) C dX12_aTest_30 (by decide) ?_
      refine r_iload_n C dX12_aTest_33 rfl ?_
      refine r_iadd C dX12_aTest_34 ?_
      obtain ⟨h18, e19, hf0⟩ := ob hf0
      refine r_stI C dX12_aTest_35 e19 ?_
      refine r_aload_n C dX12_aTest_36 rfl ?_
      obtain ⟨u21, e20, hf0⟩ := ob hf0
      obtain ⟨h22, e23, hf0⟩ := ob hf0
      refine r_cV (ci := 12) (rest := []) (st2 := []) C (s_X12_ahead e23) mk_X12_ahead rfl (ck_k e20) (by decide) im_X12_ahead sl_X12_ahead lk_X12_180 rfl rfl rfl dX12_aTest_37 (Nat.le_of_ble_eq_true rfl) ⟨Nat.le_of_ble_eq_true rfl, Nat.le_of_ble_eq_true rfl⟩ ⟨Nat.le_of_ble_eq_true rfl, Nat.le_of_ble_eq_true rfl⟩ ?_
      refine r_iload_n C dX12_aTest_40 rfl ?_
      refine r_bipush (v := 25) C dX12_aTest_41 (by decide) ?_
      refine r_icmp_ne (tgt := 60) C dX12_aTest_43 (by decide) (fun c24 => ?_) (fun c24 => ?_)
      · rw [if_neg c24] at hf0
        refine r_aload_n C dX12_aTest_60 rfl ?_
        refine r_iload_n C dX12_aTest_61 rfl ?_
        refine r_iconst (v := 1) C dX12_aTest_62 (by decide) ?_
        refine r_iadd C dX12_aTest_63 ?_
        refine r_bipush (v := 28) C dX12_aTest_64 (by decide) ?_
        refine r_aload_n C dX12_aTest_66 rfl ?_
        obtain ⟨t25, e26, hf0⟩ := ob hf0
        refine r_getR C fk_X12_7 rfl dX12_aTest_67 e26 ?_
        refine r_iconst (v := 3) C dX12_aTest_70 (by decide) ?_
        obtain ⟨t27, e28, hf0⟩ := ob hf0
        refine r_ldI C dX12_aTest_71 e28 ?_
        obtain ⟨u30, e29, hf0⟩ := ob hf0
        obtain ⟨t31, h32, e33, hf0⟩ := ob2 hf0
        refine r_cV (ci := 12) (rest := []) (st2 := [.int t31]) C (s_X12_name e33) mk_X12_name rfl (ck_k e29) (by decide) im_X12_name sl_X12_name lk_X12_307 rfl rfl rfl dX12_aTest_72 (Nat.le_of_ble_eq_true rfl) ⟨Nat.le_of_ble_eq_true rfl, Nat.le_of_ble_eq_true rfl⟩ ⟨Nat.le_of_ble_eq_true rfl, Nat.le_of_ble_eq_true rfl⟩ ?_
        obtain ⟨t34, e35, hf0⟩ := ob hf0
        obtain ⟨rfl, e35z⟩ := rZ_k e35
        obtain rfl := so hf0
        exact r_zret C dX12_aTest_75 e35z
      · rw [if_pos c24] at hf0
        refine r_aload_n C dX12_aTest_46 rfl ?_
        refine r_iload_n C dX12_aTest_47 rfl ?_
        refine r_iconst (v := 1) C dX12_aTest_48 (by decide) ?_
        refine r_iadd C dX12_aTest_49 ?_
        refine r_iconst (v := 0) C dX12_aTest_50 (by decide) ?_
        refine r_sipush (v := 256) C dX12_aTest_51 (by decide) ?_
        obtain ⟨u37, e36, hf0⟩ := ob hf0
        obtain ⟨t38, h39, e40, hf0⟩ := ob2 hf0
        refine r_cV (ci := 12) (rest := []) (st2 := [.int t38]) C (s_X12_number e40) mk_X12_number rfl (ck_k e36) (by decide) im_X12_number sl_X12_number lk_X12_227 rfl rfl rfl dX12_aTest_54 (Nat.le_of_ble_eq_true rfl) ⟨Nat.le_of_ble_eq_true rfl, Nat.le_of_ble_eq_true rfl⟩ ⟨Nat.le_of_ble_eq_true rfl, Nat.le_of_ble_eq_true rfl⟩ ?_
        refine r_goto (tgt := 75) C dX12_aTest_57 (by decide) ?_
        obtain ⟨t41, e42, hf0⟩ := ob hf0
        obtain ⟨rfl, e42z⟩ := rZ_k e42
        obtain rfl := so hf0
        exact r_zret C dX12_aTest_75 e42z
    · rw [if_neg c15] at hf0
      refine r_subk [1] (lv' := [(0, .ref v0)]) rfl ?_
      exact J19 h v0 hf0
def f_X12_step_j311 (h : aH) (v0 : Nat) : Option (Int32 × aH) := (ck h 12 v0).bind fun _ => bd2 (f_X12_wantSign h v0 (59 : Int32)) fun t1 h2 => (rZ t1).bind fun t3 => some (t3, h2)
def f_X12_step_j272 (h : aH) (v0 : Nat) (v1 : Int32) (v2 : Int32) : Option (Int32 × aH) := if v1 = (26 : Int32) then (gI h 12 v0 29).bind fun t4 => (pI h 12 v0 29 (t4 - (1 : Int32))).bind fun h5 => (gR h5 12 v0 0).bind fun t6 => (gR h5 12 v0 28).bind fun t7 => (gI h5 12 v0 29).bind fun t8 => (lI h5 t7 t8).bind fun t9 => (sI h5 t6 (((1748 : Int32) + ((4 : Int32) * t9)) + (3 : Int32)) v2).bind fun h10 => f_X12_step_j311 h10 v0 else f_X12_step_j311 h v0
def f_X12_step_j246 (h : aH) (v0 : Nat) (v1 : Int32) (v2 : Int32) : Option (Int32 × aH) := if v1 = (21 : Int32) then (gR h 12 v0 28).bind fun t11 => (gI h 12 v0 29).bind fun t12 => (sI h t11 t12 v2).bind fun h13 => (gI h13 12 v0 29).bind fun t14 => (pI h13 12 v0 29 (t14 + (1 : Int32))).bind fun h15 => f_X12_step_j272 h15 v0 v1 v2 else f_X12_step_j272 h v0 v1 v2
def f_X12_step_j230 (h : aH) (v0 : Nat) (v1 : Int32) (v2 : Int32) (v3 : Int32) : Option (Int32 × aH) := if v1 = (21 : Int32) then (ck h 12 v0).bind fun _ => bd2 (f_X12_aTest h v0 v3) fun t16 h17 => if t16 = 0 then some ((0 : Int32), h17) else f_X12_step_j246 h17 v0 v1 v2 else f_X12_step_j246 h v0 v1 v2
def f_X12_step_j210 (h : aH) (v0 : Nat) (v1 : Int32) (v2 : Int32) (v3 : Int32) : Option (Int32 × aH) := (gR h 12 v0 0).bind fun t18 => (lI h t18 (3 : Int32)).bind fun t19 => (ck h 12 v0).bind fun _ => bd2 (f_X12_name h v0 (v3 + (2 : Int32)) (28 : Int32) t19) fun t20 h21 => if t20 = 0 then some ((0 : Int32), h21) else f_X12_step_j230 h21 v0 v1 v2 v3
def f_X12_step_j198 (h : aH) (v0 : Nat) (v1 : Int32) (v2 : Int32) (v3 : Int32) : Option (Int32 × aH) := if v1 = (17 : Int32) then f_X12_step_j210 h v0 v1 v2 v3 else if v1 = (20 : Int32) then f_X12_step_j210 h v0 v1 v2 v3 else f_X12_step_j230 h v0 v1 v2 v3
def f_X12_step_j178 (h : aH) (v0 : Nat) (v1 : Int32) (v2 : Int32) (v3 : Int32) : Option (Int32 × aH) := (gR h 12 v0 0).bind fun t22 => (lI h t22 (4 : Int32)).bind fun t23 => (ck h 12 v0).bind fun _ => bd2 (f_X12_name h v0 (v3 + (1 : Int32)) (40 : Int32) t23) fun t24 h25 => if t24 = 0 then some ((0 : Int32), h25) else f_X12_step_j198 h25 v0 v1 v2 v3
def f_X12_step_b121 (v0 : Nat) (v1 : Int32) (v2 : Int32) (v3 : Int32) (v4 : Int32) (h : aH) : Option ((Int32 × aH) ⊕ (aH)) := if (4 : Int32) ≤ v4 then some (.inr h) else (gR h 12 v0 0).bind fun t27 => (sI h t27 (v3 + v4) (0 : Int32)).bind fun h28 => (some (v4 + (1 : Int32))).bind fun t29 => some (.inl (t29, h28))
def f_X12_step_l121 (v0 : Nat) (v1 : Int32) (v2 : Int32) (v3 : Int32) (v4 : Int32) (h : aH) : Option (aH) := whileL wN (fun q : Int32 × aH => f_X12_step_b121 v0 v1 v2 v3 q.1 q.2) (v4, h)
def f_X12_step_j114 (h : aH) (v0 : Nat) (v1 : Int32) (v2 : Int32) (v3 : Int32) (s0 : Nat) (s1 : Int32) (s2 : Int32) : Option (Int32 × aH) := (pI h 12 s0 30 (s1 + s2)).bind fun h26 => (f_X12_step_l121 v0 v1 v2 v3 (1 : Int32) h26).bind fun h30 => (gR h30 12 v0 0).bind fun t31 => (sI h30 t31 v3 v1).bind fun h32 => (gR h32 12 v0 0).bind fun t33 => (lI h32 t33 (1607 : Int32)).bind fun t34 => (sI h32 t33 (1607 : Int32) (t34 + (1 : Int32))).bind fun h35 => (ck h35 12 v0).bind fun _ => (f_X12_ahead h35 v0).bind fun h36 => if v1 = (17 : Int32) then f_X12_step_j178 h36 v0 v1 v2 v3 else if v1 = (18 : Int32) then f_X12_step_j178 h36 v0 v1 v2 v3 else f_X12_step_j198 h36 v0 v1 v2 v3
def f_X12_step_j98 (h : aH) (v0 : Nat) (v1 : Int32) (v2 : Int32) (v3 : Int32) : Option (Int32 × aH) := (gI h 12 v0 30).bind fun t37 => if v1 = (26 : Int32) then f_X12_step_j114 h v0 v1 v2 v3 v0 t37 (0 : Int32) else f_X12_step_j114 h v0 v1 v2 v3 v0 t37 (1 : Int32)
def f_X12_step_j77 (h : aH) (v0 : Nat) (v1 : Int32) (v2 : Int32) (v3 : Int32) : Option (Int32 × aH) := if v1 = (21 : Int32) then (gI h 12 v0 29).bind fun t38 => if t38 = (3 : Int32) then (ck h 12 v0).bind fun _ => bd2 (f_X12_fails h v0 (7 : Int32)) fun t39 h40 => (rZ t39).bind fun t41 => some (t41, h40) else f_X12_step_j98 h v0 v1 v2 v3 else f_X12_step_j98 h v0 v1 v2 v3
def f_X12_step_j55 (h : aH) (v0 : Nat) (v1 : Int32) (v2 : Int32) (v3 : Int32) : Option (Int32 × aH) := if v1 = (26 : Int32) then f_X12_step_j77 h v0 v1 v2 v3 else (gI h 12 v0 30).bind fun t42 => if t42 = (30 : Int32) then (ck h 12 v0).bind fun _ => bd2 (f_X12_fails h v0 (6 : Int32)) fun t43 h44 => (rZ t43).bind fun t45 => some (t45, h44) else f_X12_step_j77 h v0 v1 v2 v3
def f_X12_step_j49 (h : aH) (v0 : Nat) : Option (Int32 × aH) := (ck h 12 v0).bind fun _ => bd2 (f_X12_fails h v0 (2 : Int32)) fun t46 h47 => (rZ t46).bind fun t48 => some (t48, h47)
def f_X12_step_j36 (h : aH) (v0 : Nat) (v1 : Int32) (v2 : Int32) (v3 : Int32) : Option (Int32 × aH) := if v1 = (26 : Int32) then (gI h 12 v0 29).bind fun t49 => if t49 = 0 then f_X12_step_j49 h v0 else f_X12_step_j55 h v0 v1 v2 v3 else f_X12_step_j49 h v0
def f_X12_step (h : aH) (v0 : Nat) : Option (Int32 × aH) := (ck h 12 v0).bind fun _ => (f_X12_inWords h v0 1).bind fun t50 => (gR h 12 v0 0).bind fun t51 => (lI h t51 (1607 : Int32)).bind fun t52 => (some ((1748 : Int32) + ((4 : Int32) * t52))).bind fun t53 => if t50 < (17 : Int32) then f_X12_step_j36 h v0 t50 t52 t53 else if t50 ≤ (21 : Int32) then f_X12_step_j55 h v0 t50 t52 t53 else f_X12_step_j36 h v0 t50 t52 t53
theorem s_X12_step {h : aH} {v0 : Nat} {out : Int32 × aH} (hf0 : f_X12_step h v0 = some out) : EV 13 yX12_step cX12_step 5 (some .boolean) h [.ref v0] (some (.int out.1)) out.2 0 0 := by
  refine EV.of (own := RX12) (lv0 := [(0, .ref v0)]) (by decide +kernel) rfl rfl (Nat.le_of_ble_eq_true rfl) ?_
  intro p l e s m args below meth c D cA B Hb C hin
  unfold f_X12_step at hf0
  have J311 : ∀ (h1 : aH) (t2 : Nat), f_X12_step_j311 h1 t2 = some out → gW p l e (rmO 13 0 0) s m args below meth c (MQ below (eQ D cA B Hb out.2 (some (.int out.1))) args s 0 0 (fun q => B ≤ q)) D cA B Hb 5 h1 311 [(0, .ref t2)] [] 0 0 := by
    intro h1 t2 hf0
    unfold f_X12_step_j311 at hf0
    refine r_aload_n C dX12_step_311 rfl ?_
    refine r_bipush (v := 59) C dX12_step_312 (by decide) ?_
    obtain ⟨u4, e3, hf0⟩ := ob hf0
    obtain ⟨t5, h6, e7, hf0⟩ := ob2 hf0
    refine r_cV (ci := 12) (rest := []) (st2 := [.int t5]) C (s_X12_wantSign e7) mk_X12_wantSign rfl (ck_k e3) (by decide) im_X12_wantSign sl_X12_wantSign lk_X12_289 rfl rfl rfl dX12_step_314 (Nat.le_of_ble_eq_true rfl) ⟨Nat.le_of_ble_eq_true rfl, Nat.le_of_ble_eq_true rfl⟩ ⟨Nat.le_of_ble_eq_true rfl, Nat.le_of_ble_eq_true rfl⟩ ?_
    obtain ⟨t8, e9, hf0⟩ := ob hf0
    obtain ⟨rfl, e9z⟩ := rZ_k e9
    obtain rfl := so hf0
    exact r_zret C dX12_step_317 e9z
  have J272 : ∀ (h10 : aH) (t11 : Nat) (t12 : Int32) (t13 : Int32), f_X12_step_j272 h10 t11 t12 t13 = some out → gW p l e (rmO 13 0 0) s m args below meth c (MQ below (eQ D cA B Hb out.2 (some (.int out.1))) args s 0 0 (fun q => B ≤ q)) D cA B Hb 5 h10 272 [(0, .ref t11), (1, .int t12), (2, .int t13)] [] 0 0 := by
    intro h10 t11 t12 t13 hf0
    unfold f_X12_step_j272 at hf0
    refine r_iload_n C dX12_step_272 rfl ?_
    refine r_bipush (v := 26) C dX12_step_273 (by decide) ?_
    refine r_icmp_ne (tgt := 311) C dX12_step_275 (by decide) (fun c14 => ?_) (fun c14 => ?_)
    · rw [if_neg c14] at hf0
      refine r_subk [0] (lv' := [(0, .ref t11)]) rfl ?_
      exact J311 h10 t11 hf0
    · rw [if_pos c14] at hf0
      refine r_aload_n C dX12_step_278 rfl ?_
      refine r_dup C dX12_step_279 rfl ?_
      obtain ⟨t15, e16, hf0⟩ := ob hf0
      refine r_getI C fk_X12_310 rfl dX12_step_280 e16 ?_
      refine r_iconst (v := 1) C dX12_step_283 (by decide) ?_
      refine r_isub C dX12_step_284 ?_
      obtain ⟨h17, e18, hf0⟩ := ob hf0
      refine r_putI C fk_X12_310 dX12_step_285 e18 ?_
      refine r_aload_n C dX12_step_288 rfl ?_
      obtain ⟨t19, e20, hf0⟩ := ob hf0
      refine r_getR C fk_X12_7 rfl dX12_step_289 e20 ?_
      refine r_sipush (v := 1748) C dX12_step_292 (by decide) ?_
      refine r_iconst (v := 4) C dX12_step_295 (by decide) ?_
      refine r_aload_n C dX12_step_296 rfl ?_
      obtain ⟨t21, e22, hf0⟩ := ob hf0
      refine r_getR C fk_X12_56 rfl dX12_step_297 e22 ?_
      refine r_aload_n C dX12_step_300 rfl ?_
      obtain ⟨t23, e24, hf0⟩ := ob hf0
      refine r_getI C fk_X12_310 rfl dX12_step_301 e24 ?_
      obtain ⟨t25, e26, hf0⟩ := ob hf0
      refine r_ldI C dX12_step_304 e26 ?_
      refine r_imul C dX12_step_305 ?_
      refine r_iadd C dX12_step_306 ?_
      refine r_iconst (v := 3) C dX12_step_307 (by decide) ?_
      refine r_iadd C dX12_step_308 ?_
      refine r_iload_n C dX12_step_309 rfl ?_
      obtain ⟨h27, e28, hf0⟩ := ob hf0
      refine r_stI C dX12_step_310 e28 ?_
      refine r_subk [0] (lv' := [(0, .ref t11)]) rfl ?_
      exact J311 h27 t11 hf0
  have J246 : ∀ (h29 : aH) (t30 : Nat) (t31 : Int32) (t32 : Int32), f_X12_step_j246 h29 t30 t31 t32 = some out → gW p l e (rmO 13 0 0) s m args below meth c (MQ below (eQ D cA B Hb out.2 (some (.int out.1))) args s 0 0 (fun q => B ≤ q)) D cA B Hb 5 h29 246 [(0, .ref t30), (1, .int t31), (2, .int t32)] [] 0 0 := by
    intro h29 t30 t31 t32 hf0
    unfold f_X12_step_j246 at hf0
    refine r_iload_n C dX12_step_246 rfl ?_
    refine r_bipush (v := 21) C dX12_step_247 (by decide) ?_
    refine r_icmp_ne (tgt := 272) C dX12_step_249 (by decide) (fun c33 => ?_) (fun c33 => ?_)
    · rw [if_neg c33] at hf0
      exact J272 h29 t30 t31 t32 hf0
    · rw [if_pos c33] at hf0
      refine r_aload_n C dX12_step_252 rfl ?_
      obtain ⟨t34, e35, hf0⟩ := ob hf0
      refine r_getR C fk_X12_56 rfl dX12_step_253 e35 ?_
      refine r_aload_n C dX12_step_256 rfl ?_
      obtain ⟨t36, e37, hf0⟩ := ob hf0
      refine r_getI C fk_X12_310 rfl dX12_step_257 e37 ?_
      refine r_iload_n C dX12_step_260 rfl ?_
      obtain ⟨h38, e39, hf0⟩ := ob hf0
      refine r_stI C dX12_step_261 e39 ?_
      refine r_aload_n C dX12_step_262 rfl ?_
      refine r_dup C dX12_step_263 rfl ?_
      obtain ⟨t40, e41, hf0⟩ := ob hf0
      refine r_getI C fk_X12_310 rfl dX12_step_264 e41 ?_
      refine r_iconst (v := 1) C dX12_step_267 (by decide) ?_
      refine r_iadd C dX12_step_268 ?_
      obtain ⟨h42, e43, hf0⟩ := ob hf0
      refine r_putI C fk_X12_310 dX12_step_269 e43 ?_
      exact J272 h42 t30 t31 t32 hf0
  have J230 : ∀ (h44 : aH) (t45 : Nat) (t46 : Int32) (t47 : Int32) (t48 : Int32), f_X12_step_j230 h44 t45 t46 t47 t48 = some out → gW p l e (rmO 13 0 0) s m args below meth c (MQ below (eQ D cA B Hb out.2 (some (.int out.1))) args s 0 0 (fun q => B ≤ q)) D cA B Hb 5 h44 230 [(0, .ref t45), (1, .int t46), (2, .int t47), (3, .int t48)] [] 0 0 := by
    intro h44 t45 t46 t47 t48 hf0
    unfold f_X12_step_j230 at hf0
    refine r_iload_n C dX12_step_230 rfl ?_
    refine r_bipush (v := 21) C dX12_step_231 (by decide) ?_
    refine r_icmp_ne (tgt := 246) C dX12_step_233 (by decide) (fun c49 => ?_) (fun c49 => ?_)
    · rw [if_neg c49] at hf0
      refine r_subk [0, 1, 2] (lv' := [(0, .ref t45), (1, .int t46), (2, .int t47)]) rfl ?_
      exact J246 h44 t45 t46 t47 hf0
    · rw [if_pos c49] at hf0
      refine r_aload_n C dX12_step_236 rfl ?_
      refine r_iload_n C dX12_step_237 rfl ?_
      obtain ⟨u51, e50, hf0⟩ := ob hf0
      obtain ⟨t52, h53, e54, hf0⟩ := ob2 hf0
      refine r_cV (ci := 12) (rest := []) (st2 := [.int t52]) C (s_X12_aTest e54) mk_X12_aTest rfl (ck_k e50) (by decide) im_X12_aTest sl_X12_aTest lk_X12_316 rfl rfl rfl dX12_step_238 (Nat.le_of_ble_eq_true rfl) ⟨Nat.le_of_ble_eq_true rfl, Nat.le_of_ble_eq_true rfl⟩ ⟨Nat.le_of_ble_eq_true rfl, Nat.le_of_ble_eq_true rfl⟩ ?_
      refine r_ifne (tgt := 246) C dX12_step_241 (by decide) (fun c55 => ?_) (fun c55 => ?_)
      · rw [if_neg c55] at hf0
        refine r_subk [0, 1, 2] (lv' := [(0, .ref t45), (1, .int t46), (2, .int t47)]) rfl ?_
        exact J246 h53 t45 t46 t47 hf0
      · rw [if_pos c55] at hf0
        refine r_iconst (v := 0) C dX12_step_244 (by decide) ?_
        obtain rfl := so hf0
        exact r_zret C dX12_step_245 (Or.inl rfl)
  have J210 : ∀ (h56 : aH) (t57 : Nat) (t58 : Int32) (t59 : Int32) (t60 : Int32), f_X12_step_j210 h56 t57 t58 t59 t60 = some out → gW p l e (rmO 13 0 0) s m args below meth c (MQ below (eQ D cA B Hb out.2 (some (.int out.1))) args s 0 0 (fun q => B ≤ q)) D cA B Hb 5 h56 210 [(0, .ref t57), (1, .int t58), (2, .int t59), (3, .int t60)] [] 0 0 := by
    intro h56 t57 t58 t59 t60 hf0
    unfold f_X12_step_j210 at hf0
    refine r_aload_n C dX12_step_210 rfl ?_
    refine r_iload_n C dX12_step_211 rfl ?_
    refine r_iconst (v := 2) C dX12_step_212 (by decide) ?_
    refine r_iadd C dX12_step_213 ?_
    refine r_bipush (v := 28) C dX12_step_214 (by decide) ?_
    refine r_aload_n C dX12_step_216 rfl ?_
    obtain ⟨t61, e62, hf0⟩ := ob hf0
    refine r_getR C fk_X12_7 rfl dX12_step_217 e62 ?_
    refine r_iconst (v := 3) C dX12_step_220 (by decide) ?_
    obtain ⟨t63, e64, hf0⟩ := ob hf0
    refine r_ldI C dX12_step_221 e64 ?_
    obtain ⟨u66, e65, hf0⟩ := ob hf0
    obtain ⟨t67, h68, e69, hf0⟩ := ob2 hf0
    refine r_cV (ci := 12) (rest := []) (st2 := [.int t67]) C (s_X12_name e69) mk_X12_name rfl (ck_k e65) (by decide) im_X12_name sl_X12_name lk_X12_307 rfl rfl rfl dX12_step_222 (Nat.le_of_ble_eq_true rfl) ⟨Nat.le_of_ble_eq_true rfl, Nat.le_of_ble_eq_true rfl⟩ ⟨Nat.le_of_ble_eq_true rfl, Nat.le_of_ble_eq_true rfl⟩ ?_
    refine r_ifne (tgt := 230) C dX12_step_225 (by decide) (fun c70 => ?_) (fun c70 => ?_)
    · rw [if_neg c70] at hf0
      exact J230 h68 t57 t58 t59 t60 hf0
    · rw [if_pos c70] at hf0
      refine r_iconst (v := 0) C dX12_step_228 (by decide) ?_
      obtain rfl := so hf0
      exact r_zret C dX12_step_229 (Or.inl rfl)
  have J198 : ∀ (h71 : aH) (t72 : Nat) (t73 : Int32) (t74 : Int32) (t75 : Int32), f_X12_step_j198 h71 t72 t73 t74 t75 = some out → gW p l e (rmO 13 0 0) s m args below meth c (MQ below (eQ D cA B Hb out.2 (some (.int out.1))) args s 0 0 (fun q => B ≤ q)) D cA B Hb 5 h71 198 [(0, .ref t72), (1, .int t73), (2, .int t74), (3, .int t75)] [] 0 0 := by
    intro h71 t72 t73 t74 t75 hf0
    unfold f_X12_step_j198 at hf0
    refine r_iload_n C dX12_step_198 rfl ?_
    refine r_bipush (v := 17) C dX12_step_199 (by decide) ?_
    refine r_icmp_eq (tgt := 210) C dX12_step_201 (by decide) (fun c76 => ?_) (fun c76 => ?_)
    · rw [if_pos c76] at hf0
      exact J210 h71 t72 t73 t74 t75 hf0
    · rw [if_neg c76] at hf0
      refine r_iload_n C dX12_step_204 rfl ?_
      refine r_bipush (v := 20) C dX12_step_205 (by decide) ?_
      refine r_icmp_ne (tgt := 230) C dX12_step_207 (by decide) (fun c77 => ?_) (fun c77 => ?_)
      · rw [if_neg c77] at hf0
        exact J230 h71 t72 t73 t74 t75 hf0
      · rw [if_pos c77] at hf0
        exact J210 h71 t72 t73 t74 t75 hf0
  have J178 : ∀ (h78 : aH) (t79 : Nat) (t80 : Int32) (t81 : Int32) (t82 : Int32), f_X12_step_j178 h78 t79 t80 t81 t82 = some out → gW p l e (rmO 13 0 0) s m args below meth c (MQ below (eQ D cA B Hb out.2 (some (.int out.1))) args s 0 0 (fun q => B ≤ q)) D cA B Hb 5 h78 178 [(0, .ref t79), (1, .int t80), (2, .int t81), (3, .int t82)] [] 0 0 := by
    intro h78 t79 t80 t81 t82 hf0
    unfold f_X12_step_j178 at hf0
    refine r_aload_n C dX12_step_178 rfl ?_
    refine r_iload_n C dX12_step_179 rfl ?_
    refine r_iconst (v := 1) C dX12_step_180 (by decide) ?_
    refine r_iadd C dX12_step_181 ?_
    refine r_bipush (v := 40) C dX12_step_182 (by decide) ?_
    refine r_aload_n C dX12_step_184 rfl ?_
    obtain ⟨t83, e84, hf0⟩ := ob hf0
    refine r_getR C fk_X12_7 rfl dX12_step_185 e84 ?_
    refine r_iconst (v := 4) C dX12_step_188 (by decide) ?_
    obtain ⟨t85, e86, hf0⟩ := ob hf0
    refine r_ldI C dX12_step_189 e86 ?_
    obtain ⟨u88, e87, hf0⟩ := ob hf0
    obtain ⟨t89, h90, e91, hf0⟩ := ob2 hf0
    refine r_cV (ci := 12) (rest := []) (st2 := [.int t89]) C (s_X12_name e91) mk_X12_name rfl (ck_k e87) (by decide) im_X12_name sl_X12_name lk_X12_307 rfl rfl rfl dX12_step_190 (Nat.le_of_ble_eq_true rfl) ⟨Nat.le_of_ble_eq_true rfl, Nat.le_of_ble_eq_true rfl⟩ ⟨Nat.le_of_ble_eq_true rfl, Nat.le_of_ble_eq_true rfl⟩ ?_
    refine r_ifne (tgt := 198) C dX12_step_193 (by decide) (fun c92 => ?_) (fun c92 => ?_)
    · rw [if_neg c92] at hf0
      exact J198 h90 t79 t80 t81 t82 hf0
    · rw [if_pos c92] at hf0
      refine r_iconst (v := 0) C dX12_step_196 (by decide) ?_
      obtain rfl := so hf0
      exact r_zret C dX12_step_197 (Or.inl rfl)
  have J114 : ∀ (h93 : aH) (t94 : Nat) (t95 : Int32) (t96 : Int32) (t97 : Int32) (t98 : Nat) (t99 : Int32) (t100 : Int32), f_X12_step_j114 h93 t94 t95 t96 t97 t98 t99 t100 = some out → gW p l e (rmO 13 0 0) s m args below meth c (MQ below (eQ D cA B Hb out.2 (some (.int out.1))) args s 0 0 (fun q => B ≤ q)) D cA B Hb 5 h93 114 [(0, .ref t94), (1, .int t95), (2, .int t96), (3, .int t97)] [.int t100, .int t99, .ref t98] 0 0 := by
    intro h93 t94 t95 t96 t97 t98 t99 t100 hf0
    unfold f_X12_step_j114 at hf0
    refine r_iadd C dX12_step_114 ?_
    obtain ⟨h101, e102, hf0⟩ := ob hf0
    refine r_putI C fk_X12_313 dX12_step_115 e102 ?_
    refine r_iconst (v := 1) C dX12_step_118 (by decide) ?_
    refine r_istore (lv' := [(4, .int (1 : Int32)), (0, .ref t94), (1, .int t95), (2, .int t96), (3, .int t97)]) C dX12_step_119 (by decide) rfl rfl ?_
    obtain ⟨y103, hl121, hf0⟩ := ob hf0
    have L121 : ∀ (n : Nat) (t104 : Int32) (h105 : aH), whileL n (fun q : Int32 × aH => f_X12_step_b121 t94 t95 t96 t97 q.1 q.2) (t104, h105) = some y103 → gW p l e (rmO 13 0 0) s m args below meth c (MQ below (eQ D cA B Hb out.2 (some (.int out.1))) args s 0 0 (fun q => B ≤ q)) D cA B Hb 5 h105 121 [(0, .ref t94), (1, .int t95), (2, .int t96), (3, .int t97), (4, .int t104)] [] 0 0 := by
      intro n
      induction n with
      | zero => intro t104 h105 hz; cases hz
      | succ n ih121 =>
        intro t104 h105 hz
        obtain ⟨x121, hf1, hk121⟩ := wl hz
        replace hf1 : f_X12_step_b121 t94 t95 t96 t97 t104 h105 = some x121 := hf1
        unfold f_X12_step_b121 at hf1
        refine r_iload C dX12_step_121 rfl ?_
        refine r_iconst (v := 4) C dX12_step_123 (by decide) ?_
        refine r_icmp_ge (tgt := 143) C dX12_step_124 (by decide) (fun c106 => ?_) (fun c106 => ?_)
        · rw [if_pos c106] at hf1
          obtain rfl := so hf1
          obtain rfl := so (show some h105 = some y103 from hk121)
          refine r_aload_n C dX12_step_143 rfl ?_
          obtain ⟨t107, e108, hf0⟩ := ob hf0
          refine r_getR C fk_X12_7 rfl dX12_step_144 e108 ?_
          refine r_iload_n C dX12_step_147 rfl ?_
          refine r_iload_n C dX12_step_148 rfl ?_
          obtain ⟨h109, e110, hf0⟩ := ob hf0
          refine r_stI C dX12_step_149 e110 ?_
          refine r_aload_n C dX12_step_150 rfl ?_
          obtain ⟨t111, e112, hf0⟩ := ob hf0
          refine r_getR C fk_X12_7 rfl dX12_step_151 e112 ?_
          refine r_sipush (v := 1607) C dX12_step_154 (by decide) ?_
          refine r_dup2 C dX12_step_157 rfl rfl ?_
          obtain ⟨t113, e114, hf0⟩ := ob hf0
          refine r_ldI C dX12_step_158 e114 ?_
          refine r_iconst (v := 1) C dX12_step_159 (by decide) ?_
          refine r_iadd C dX12_step_160 ?_
          obtain ⟨h115, e116, hf0⟩ := ob hf0
          refine r_stI C dX12_step_161 e116 ?_
          refine r_aload_n C dX12_step_162 rfl ?_
          obtain ⟨u118, e117, hf0⟩ := ob hf0
          obtain ⟨h119, e120, hf0⟩ := ob hf0
          refine r_cV (ci := 12) (rest := []) (st2 := []) C (s_X12_ahead e120) mk_X12_ahead rfl (ck_k e117) (by decide) im_X12_ahead sl_X12_ahead lk_X12_180 rfl rfl rfl dX12_step_163 (Nat.le_of_ble_eq_true rfl) ⟨Nat.le_of_ble_eq_true rfl, Nat.le_of_ble_eq_true rfl⟩ ⟨Nat.le_of_ble_eq_true rfl, Nat.le_of_ble_eq_true rfl⟩ ?_
          refine r_iload_n C dX12_step_166 rfl ?_
          refine r_bipush (v := 17) C dX12_step_167 (by decide) ?_
          refine r_icmp_eq (tgt := 178) C dX12_step_169 (by decide) (fun c121 => ?_) (fun c121 => ?_)
          · rw [if_pos c121] at hf0
            refine r_subk [0, 1, 2, 3] (lv' := [(0, .ref t94), (1, .int t95), (2, .int t96), (3, .int t97)]) rfl ?_
            exact J178 h119 t94 t95 t96 t97 hf0
          · rw [if_neg c121] at hf0
            refine r_iload_n C dX12_step_172 rfl ?_
            refine r_bipush (v := 18) C dX12_step_173 (by decide) ?_
            refine r_icmp_ne (tgt := 198) C dX12_step_175 (by decide) (fun c122 => ?_) (fun c122 => ?_)
            · rw [if_neg c122] at hf0
              refine r_subk [0, 1, 2, 3] (lv' := [(0, .ref t94), (1, .int t95), (2, .int t96), (3, .int t97)]) rfl ?_
              exact J198 h119 t94 t95 t96 t97 hf0
            · rw [if_pos c122] at hf0
              refine r_subk [0, 1, 2, 3] (lv' := [(0, .ref t94), (1, .int t95), (2, .int t96), (3, .int t97)]) rfl ?_
              exact J178 h119 t94 t95 t96 t97 hf0
        · rw [if_neg c106] at hf1
          refine r_aload_n C dX12_step_127 rfl ?_
          obtain ⟨t123, e124, hf1⟩ := ob hf1
          refine r_getR C fk_X12_7 rfl dX12_step_128 e124 ?_
          refine r_iload_n C dX12_step_131 rfl ?_
          refine r_iload C dX12_step_132 rfl ?_
          refine r_iadd C dX12_step_134 ?_
          refine r_iconst (v := 0) C dX12_step_135 (by decide) ?_
          obtain ⟨h125, e126, hf1⟩ := ob hf1
          refine r_stI C dX12_step_136 e126 ?_
          obtain ⟨t127, e128, hf1⟩ := ob hf1
          refine r_iinc (lv' := [(4, .int t127), (0, .ref t94), (1, .int t95), (2, .int t96), (3, .int t97)]) C dX12_step_137 rfl e128 (by decide) rfl ?_
          refine r_goto (tgt := 121) C dX12_step_140 (by decide) ?_
          obtain rfl := so hf1
          refine r_subk [1, 2, 3, 4, 0] (lv' := [(0, .ref t94), (1, .int t95), (2, .int t96), (3, .int t97), (4, .int t127)]) rfl ?_
          exact ih121 t127 h125 hk121
    refine r_subk [1, 2, 3, 4, 0] (lv' := [(0, .ref t94), (1, .int t95), (2, .int t96), (3, .int t97), (4, .int (1 : Int32))]) rfl ?_
    exact L121 wN (1 : Int32) h101 hl121
  have J98 : ∀ (h129 : aH) (t130 : Nat) (t131 : Int32) (t132 : Int32) (t133 : Int32), f_X12_step_j98 h129 t130 t131 t132 t133 = some out → gW p l e (rmO 13 0 0) s m args below meth c (MQ below (eQ D cA B Hb out.2 (some (.int out.1))) args s 0 0 (fun q => B ≤ q)) D cA B Hb 5 h129 98 [(0, .ref t130), (1, .int t131), (2, .int t132), (3, .int t133)] [] 0 0 := by
    intro h129 t130 t131 t132 t133 hf0
    unfold f_X12_step_j98 at hf0
    refine r_aload_n C dX12_step_98 rfl ?_
    refine r_dup C dX12_step_99 rfl ?_
    obtain ⟨t134, e135, hf0⟩ := ob hf0
    refine r_getI C fk_X12_313 rfl dX12_step_100 e135 ?_
    refine r_iload_n C dX12_step_103 rfl ?_
    refine r_bipush (v := 26) C dX12_step_104 (by decide) ?_
    refine r_icmp_ne (tgt := 113) C dX12_step_106 (by decide) (fun c136 => ?_) (fun c136 => ?_)
    · rw [if_neg c136] at hf0
      refine r_iconst (v := 1) C dX12_step_113 (by decide) ?_
      exact J114 h129 t130 t131 t132 t133 t130 t134 (1 : Int32) hf0
    · rw [if_pos c136] at hf0
      refine r_iconst (v := 0) C dX12_step_109 (by decide) ?_
      refine r_goto (tgt := 114) C dX12_step_110 (by decide) ?_
      exact J114 h129 t130 t131 t132 t133 t130 t134 (0 : Int32) hf0
  have J77 : ∀ (h137 : aH) (t138 : Nat) (t139 : Int32) (t140 : Int32) (t141 : Int32), f_X12_step_j77 h137 t138 t139 t140 t141 = some out → gW p l e (rmO 13 0 0) s m args below meth c (MQ below (eQ D cA B Hb out.2 (some (.int out.1))) args s 0 0 (fun q => B ≤ q)) D cA B Hb 5 h137 77 [(0, .ref t138), (1, .int t139), (2, .int t140), (3, .int t141)] [] 0 0 := by
    intro h137 t138 t139 t140 t141 hf0
    unfold f_X12_step_j77 at hf0
    refine r_iload_n C dX12_step_77 rfl ?_
    refine r_bipush (v := 21) C dX12_step_78 (by decide) ?_
    refine r_icmp_ne (tgt := 98) C dX12_step_80 (by decide) (fun c142 => ?_) (fun c142 => ?_)
    · rw [if_neg c142] at hf0
      exact J98 h137 t138 t139 t140 t141 hf0
    · rw [if_pos c142] at hf0
      refine r_aload_n C dX12_step_83 rfl ?_
      obtain ⟨t143, e144, hf0⟩ := ob hf0
      refine r_getI C fk_X12_310 rfl dX12_step_84 e144 ?_
      refine r_iconst (v := 3) C dX12_step_87 (by decide) ?_
      refine r_icmp_ne (tgt := 98) C dX12_step_88 (by decide) (fun c145 => ?_) (fun c145 => ?_)
      · rw [if_neg c145] at hf0
        exact J98 h137 t138 t139 t140 t141 hf0
      · rw [if_pos c145] at hf0
        refine r_aload_n C dX12_step_91 rfl ?_
        refine r_bipush (v := 7) C dX12_step_92 (by decide) ?_
        obtain ⟨u147, e146, hf0⟩ := ob hf0
        obtain ⟨t148, h149, e150, hf0⟩ := ob2 hf0
        refine r_cV (ci := 12) (rest := []) (st2 := [.int t148]) C (s_X12_fails e150) mk_X12_fails rfl (ck_k e146) (by decide) im_X12_fails sl_X12_fails lk_X12_186 rfl rfl rfl dX12_step_94 (Nat.le_of_ble_eq_true rfl) ⟨Nat.le_of_ble_eq_true rfl, Nat.le_of_ble_eq_true rfl⟩ ⟨Nat.le_of_ble_eq_true rfl, Nat.le_of_ble_eq_true rfl⟩ ?_
        obtain ⟨t151, e152, hf0⟩ := ob hf0
        obtain ⟨rfl, e152z⟩ := rZ_k e152
        obtain rfl := so hf0
        exact r_zret C dX12_step_97 e152z
  have J55 : ∀ (h153 : aH) (t154 : Nat) (t155 : Int32) (t156 : Int32) (t157 : Int32), f_X12_step_j55 h153 t154 t155 t156 t157 = some out → gW p l e (rmO 13 0 0) s m args below meth c (MQ below (eQ D cA B Hb out.2 (some (.int out.1))) args s 0 0 (fun q => B ≤ q)) D cA B Hb 5 h153 55 [(0, .ref t154), (1, .int t155), (2, .int t156), (3, .int t157)] [] 0 0 := by
    intro h153 t154 t155 t156 t157 hf0
    unfold f_X12_step_j55 at hf0
    refine r_iload_n C dX12_step_55 rfl ?_
    refine r_bipush (v := 26) C dX12_step_56 (by decide) ?_
    refine r_icmp_eq (tgt := 77) C dX12_step_58 (by decide) (fun c158 => ?_) (fun c158 => ?_)
    · rw [if_pos c158] at hf0
      exact J77 h153 t154 t155 t156 t157 hf0
    · rw [if_neg c158] at hf0
      refine r_aload_n C dX12_step_61 rfl ?_
      obtain ⟨t159, e160, hf0⟩ := ob hf0
      refine r_getI C fk_X12_313 rfl dX12_step_62 e160 ?_
      refine r_bipush (v := 30) C dX12_step_65 (by decide) ?_
      refine r_icmp_ne (tgt := 77) C dX12_step_67 (by decide) (fun c161 => ?_) (fun c161 => ?_)
      · rw [if_neg c161] at hf0
        exact J77 h153 t154 t155 t156 t157 hf0
      · rw [if_pos c161] at hf0
        refine r_aload_n C dX12_step_70 rfl ?_
        refine r_bipush (v := 6) C dX12_step_71 (by decide) ?_
        obtain ⟨u163, e162, hf0⟩ := ob hf0
        obtain ⟨t164, h165, e166, hf0⟩ := ob2 hf0
        refine r_cV (ci := 12) (rest := []) (st2 := [.int t164]) C (s_X12_fails e166) mk_X12_fails rfl (ck_k e162) (by decide) im_X12_fails sl_X12_fails lk_X12_186 rfl rfl rfl dX12_step_73 (Nat.le_of_ble_eq_true rfl) ⟨Nat.le_of_ble_eq_true rfl, Nat.le_of_ble_eq_true rfl⟩ ⟨Nat.le_of_ble_eq_true rfl, Nat.le_of_ble_eq_true rfl⟩ ?_
        obtain ⟨t167, e168, hf0⟩ := ob hf0
        obtain ⟨rfl, e168z⟩ := rZ_k e168
        obtain rfl := so hf0
        exact r_zret C dX12_step_76 e168z
  have J49 : ∀ (h169 : aH) (t170 : Nat), f_X12_step_j49 h169 t170 = some out → gW p l e (rmO 13 0 0) s m args below meth c (MQ below (eQ D cA B Hb out.2 (some (.int out.1))) args s 0 0 (fun q => B ≤ q)) D cA B Hb 5 h169 49 [(0, .ref t170)] [] 0 0 := by
    intro h169 t170 hf0
    unfold f_X12_step_j49 at hf0
    refine r_aload_n C dX12_step_49 rfl ?_
    refine r_iconst (v := 2) C dX12_step_50 (by decide) ?_
    obtain ⟨u172, e171, hf0⟩ := ob hf0
    obtain ⟨t173, h174, e175, hf0⟩ := ob2 hf0
    refine r_cV (ci := 12) (rest := []) (st2 := [.int t173]) C (s_X12_fails e175) mk_X12_fails rfl (ck_k e171) (by decide) im_X12_fails sl_X12_fails lk_X12_186 rfl rfl rfl dX12_step_51 (Nat.le_of_ble_eq_true rfl) ⟨Nat.le_of_ble_eq_true rfl, Nat.le_of_ble_eq_true rfl⟩ ⟨Nat.le_of_ble_eq_true rfl, Nat.le_of_ble_eq_true rfl⟩ ?_
    obtain ⟨t176, e177, hf0⟩ := ob hf0
    obtain ⟨rfl, e177z⟩ := rZ_k e177
    obtain rfl := so hf0
    exact r_zret C dX12_step_54 e177z
  have J36 : ∀ (h178 : aH) (t179 : Nat) (t180 : Int32) (t181 : Int32) (t182 : Int32), f_X12_step_j36 h178 t179 t180 t181 t182 = some out → gW p l e (rmO 13 0 0) s m args below meth c (MQ below (eQ D cA B Hb out.2 (some (.int out.1))) args s 0 0 (fun q => B ≤ q)) D cA B Hb 5 h178 36 [(0, .ref t179), (1, .int t180), (2, .int t181), (3, .int t182)] [] 0 0 := by
    intro h178 t179 t180 t181 t182 hf0
    unfold f_X12_step_j36 at hf0
    refine r_iload_n C dX12_step_36 rfl ?_
    refine r_bipush (v := 26) C dX12_step_37 (by decide) ?_
    refine r_icmp_ne (tgt := 49) C dX12_step_39 (by decide) (fun c183 => ?_) (fun c183 => ?_)
    · rw [if_neg c183] at hf0
      refine r_subk [0] (lv' := [(0, .ref t179)]) rfl ?_
      exact J49 h178 t179 hf0
    · rw [if_pos c183] at hf0
      refine r_aload_n C dX12_step_42 rfl ?_
      obtain ⟨t184, e185, hf0⟩ := ob hf0
      refine r_getI C fk_X12_310 rfl dX12_step_43 e185 ?_
      refine r_ifne (tgt := 55) C dX12_step_46 (by decide) (fun c186 => ?_) (fun c186 => ?_)
      · rw [if_neg c186] at hf0
        exact J55 h178 t179 t180 t181 t182 hf0
      · rw [if_pos c186] at hf0
        refine r_subk [0] (lv' := [(0, .ref t179)]) rfl ?_
        exact J49 h178 t179 hf0
  refine r_aload_n C dX12_step_0 rfl ?_
  refine r_lds1 C dX12_step_1 ?_
  obtain ⟨u188, e187, hf0⟩ := ob hf0
  obtain ⟨t189, e190, hf0⟩ := ob hf0
  refine r_cV (ci := 12) (rest := []) (st2 := [.int t189]) C (s_X12_inWords e190) mk_X12_inWords rfl (ck_k e187) (by decide) im_X12_inWords sl_X12_inWords lk_X12_189 rfl rfl rfl dX12_step_3 (Nat.le_of_ble_eq_true rfl) ⟨Nat.le_of_ble_eq_true rfl, Nat.le_of_ble_eq_true rfl⟩ ⟨Nat.le_of_ble_eq_true rfl, Nat.le_of_ble_eq_true rfl⟩ ?_
  refine r_istore_n (lv' := [(1, .int t189), (0, .ref v0)]) C dX12_step_6 (by decide) rfl rfl ?_
  refine r_aload_n C dX12_step_7 rfl ?_
  obtain ⟨t191, e192, hf0⟩ := ob hf0
  refine r_getR C fk_X12_7 rfl dX12_step_8 e192 ?_
  refine r_sipush (v := 1607) C dX12_step_11 (by decide) ?_
  obtain ⟨t193, e194, hf0⟩ := ob hf0
  refine r_ldI C dX12_step_14 e194 ?_
  refine r_istore_n (lv' := [(2, .int t193), (1, .int t189), (0, .ref v0)]) C dX12_step_15 (by decide) rfl rfl ?_
  refine r_sipush (v := 1748) C dX12_step_16 (by decide) ?_
  refine r_iconst (v := 4) C dX12_step_19 (by decide) ?_
  refine r_iload_n C dX12_step_20 rfl ?_
  refine r_imul C dX12_step_21 ?_
  refine r_iadd C dX12_step_22 ?_
  obtain ⟨t195, e196, hf0⟩ := ob hf0
  refine r_istore_n (lv' := [(3, .int t195), (2, .int t193), (1, .int t189), (0, .ref v0)]) C dX12_step_23 (by decide) e196 rfl ?_
  refine r_iload_n C dX12_step_24 rfl ?_
  refine r_bipush (v := 17) C dX12_step_25 (by decide) ?_
  refine r_icmp_lt (tgt := 36) C dX12_step_27 (by decide) (fun c197 => ?_) (fun c197 => ?_)
  · rw [if_pos c197] at hf0
    refine r_subk [3, 2, 1, 0] (lv' := [(0, .ref v0), (1, .int t189), (2, .int t193), (3, .int t195)]) rfl ?_
    exact J36 h v0 t189 t193 t195 hf0
  · rw [if_neg c197] at hf0
    refine r_iload_n C dX12_step_30 rfl ?_
    refine r_bipush (v := 21) C dX12_step_31 (by decide) ?_
    refine r_icmp_le (tgt := 55) C dX12_step_33 (by decide) (fun c198 => ?_) (fun c198 => ?_)
    · rw [if_pos c198] at hf0
      refine r_subk [3, 2, 1, 0] (lv' := [(0, .ref v0), (1, .int t189), (2, .int t193), (3, .int t195)]) rfl ?_
      exact J55 h v0 t189 t193 t195 hf0
    · rw [if_neg c198] at hf0
      refine r_subk [3, 2, 1, 0] (lv' := [(0, .ref v0), (1, .int t189), (2, .int t193), (3, .int t195)]) rfl ?_
      exact J36 h v0 t189 t193 t195 hf0
def f_X12_plan_j132 (h : aH) (v0 : Nat) : Option (Int32 × aH) := (gI h 12 v0 30).bind fun t1 => (ck h 12 v0).bind fun _ => bd2 (f_X12_taken h v0 t1) fun t2 h3 => some (t2, h3)
def f_X12_plan_b103 (v0 : Nat) (v3 : Int32) (h : aH) : Option ((Int32 × aH) ⊕ (aH)) := if (400 : Int32) ≤ v3 then some (.inr h) else (gR h 12 v0 0).bind fun t9 => (gR h 12 v0 0).bind fun t10 => (lI h t10 ((1600 : Int32) + v3)).bind fun t11 => (sI h t9 v3 t11).bind fun h12 => (some (v3 + (1 : Int32))).bind fun t13 => some (.inl (t13, h12))
def f_X12_plan_l103 (v0 : Nat) (v3 : Int32) (h : aH) : Option (aH) := whileL wN (fun q : Int32 × aH => f_X12_plan_b103 v0 q.1 q.2) (v3, h)
def f_X12_plan_j77 (h : aH) (v0 : Nat) : Option (Int32 × aH) := (gI h 12 v0 19).bind fun t4 => if t4 = 0 then (gR h 12 v0 0).bind fun t5 => (gR h 12 v0 0).bind fun t6 => (lI h t6 (1607 : Int32)).bind fun t7 => (sI h t5 (7 : Int32) t7).bind fun h8 => (f_X12_plan_l103 v0 (148 : Int32) h8).bind fun h14 => f_X12_plan_j132 h14 v0 else f_X12_plan_j132 h v0
def f_X12_plan_j57 (h : aH) (v0 : Nat) : Option (Int32 × aH) := (gI h 12 v0 19).bind fun t15 => if t15 = 0 then (gI h 12 v0 29).bind fun t16 => if t16 ≤ 0 then f_X12_plan_j77 h v0 else (ck h 12 v0).bind fun _ => bd2 (f_X12_fails h v0 (2 : Int32)) fun t17 h18 => f_X12_plan_j77 h18 v0 else f_X12_plan_j77 h v0
def f_X12_plan_b38 (v0 : Nat) (v2 : Int32) (h : aH) : Option ((Int32 × aH) ⊕ (aH)) := if v2 = 0 then some (.inr h) else (gI h 12 v0 13).bind fun t25 => if t25 = 0 then some (.inr h) else (ck h 12 v0).bind fun _ => bd2 (f_X12_step h v0) fun t26 h27 => some (.inl (t26, h27))
def f_X12_plan_l38 (v0 : Nat) (v2 : Int32) (h : aH) : Option (aH) := whileL wN (fun q : Int32 × aH => f_X12_plan_b38 v0 q.1 q.2) (v2, h)
def f_X12_plan (h : aH) (v0 : Nat) (v1 : Int32) : Option (Int32 × aH) := (ck h 12 v0).bind fun _ => bd2 (f_X12_begins h v0 v1 (300 : Int32)) fun t19 h20 => if t19 = 0 then (ck h20 12 v0).bind fun _ => bd2 (f_X12_refuse h20 v0 (1 : Int32)) fun t29 h30 => some (t29, h30) else (gR h20 12 v0 0).bind fun t21 => (sI h20 t21 (1607 : Int32) (0 : Int32)).bind fun h22 => (pI h22 12 v0 29 (0 : Int32)).bind fun h23 => (pI h23 12 v0 30 (0 : Int32)).bind fun h24 => (f_X12_plan_l38 v0 (1 : Int32) h24).bind fun h28 => f_X12_plan_j57 h28 v0
theorem s_X12_plan {h : aH} {v0 : Nat} {v1 : Int32} {out : Int32 × aH} (hf0 : f_X12_plan h v0 v1 = some out) : EV 14 yX12_plan cX12_plan 4 (some .int) h [.ref v0, .int v1] (some (.int out.1)) out.2 0 0 := by
  refine EV.of (own := RX12) (lv0 := [(0, .ref v0), (1, .int v1)]) (by decide +kernel) rfl rfl (Nat.le_of_ble_eq_true rfl) ?_
  intro p l e s m args below meth c D cA B Hb C hin
  unfold f_X12_plan at hf0
  have J132 : ∀ (h1 : aH) (t2 : Nat), f_X12_plan_j132 h1 t2 = some out → gW p l e (rmO 14 0 0) s m args below meth c (MQ below (eQ D cA B Hb out.2 (some (.int out.1))) args s 0 0 (fun q => B ≤ q)) D cA B Hb 4 h1 132 [(0, .ref t2)] [] 0 0 := by
    intro h1 t2 hf0
    unfold f_X12_plan_j132 at hf0
    refine r_aload_n C dX12_plan_132 rfl ?_
    refine r_aload_n C dX12_plan_133 rfl ?_
    obtain ⟨t3, e4, hf0⟩ := ob hf0
    refine r_getI C fk_X12_313 rfl dX12_plan_134 e4 ?_
    obtain ⟨u6, e5, hf0⟩ := ob hf0
    obtain ⟨t7, h8, e9, hf0⟩ := ob2 hf0
    refine r_cV (ci := 12) (rest := []) (st2 := [.int t7]) C (s_X12_taken e9) mk_X12_taken rfl (ck_k e5) (by decide) im_X12_taken sl_X12_taken lk_X12_300 rfl rfl rfl dX12_plan_137 (Nat.le_of_ble_eq_true rfl) ⟨Nat.le_of_ble_eq_true rfl, Nat.le_of_ble_eq_true rfl⟩ ⟨Nat.le_of_ble_eq_true rfl, Nat.le_of_ble_eq_true rfl⟩ ?_
    obtain rfl := so hf0
    exact r_iret C dX12_plan_140
  have J77 : ∀ (h10 : aH) (t11 : Nat), f_X12_plan_j77 h10 t11 = some out → gW p l e (rmO 14 0 0) s m args below meth c (MQ below (eQ D cA B Hb out.2 (some (.int out.1))) args s 0 0 (fun q => B ≤ q)) D cA B Hb 4 h10 77 [(0, .ref t11)] [] 0 0 := by
    intro h10 t11 hf0
    unfold f_X12_plan_j77 at hf0
    refine r_aload_n C dX12_plan_77 rfl ?_
    obtain ⟨t12, e13, hf0⟩ := ob hf0
    refine r_getI C fk_X12_174 rfl dX12_plan_78 e13 ?_
    refine r_ifne (tgt := 132) C dX12_plan_81 (by decide) (fun c14 => ?_) (fun c14 => ?_)
    · rw [if_neg c14] at hf0
      exact J132 h10 t11 hf0
    · rw [if_pos c14] at hf0
      refine r_aload_n C dX12_plan_84 rfl ?_
      obtain ⟨t15, e16, hf0⟩ := ob hf0
      refine r_getR C fk_X12_7 rfl dX12_plan_85 e16 ?_
      refine r_bipush (v := 7) C dX12_plan_88 (by decide) ?_
      refine r_aload_n C dX12_plan_90 rfl ?_
      obtain ⟨t17, e18, hf0⟩ := ob hf0
      refine r_getR C fk_X12_7 rfl dX12_plan_91 e18 ?_
      refine r_sipush (v := 1607) C dX12_plan_94 (by decide) ?_
      obtain ⟨t19, e20, hf0⟩ := ob hf0
      refine r_ldI C dX12_plan_97 e20 ?_
      obtain ⟨h21, e22, hf0⟩ := ob hf0
      refine r_stI C dX12_plan_98 e22 ?_
      refine r_sipush (v := 148) C dX12_plan_99 (by decide) ?_
      refine r_istore_n (lv' := [(3, .int (148 : Int32)), (0, .ref t11)]) C dX12_plan_102 (by decide) rfl rfl ?_
      obtain ⟨y23, hl103, hf0⟩ := ob hf0
      have L103 : ∀ (n : Nat) (t24 : Int32) (h25 : aH), whileL n (fun q : Int32 × aH => f_X12_plan_b103 t11 q.1 q.2) (t24, h25) = some y23 → gW p l e (rmO 14 0 0) s m args below meth c (MQ below (eQ D cA B Hb out.2 (some (.int out.1))) args s 0 0 (fun q => B ≤ q)) D cA B Hb 4 h25 103 [(0, .ref t11), (3, .int t24)] [] 0 0 := by
        intro n
        induction n with
        | zero => intro t24 h25 hz; cases hz
        | succ n ih103 =>
          intro t24 h25 hz
          obtain ⟨x103, hf1, hk103⟩ := wl hz
          replace hf1 : f_X12_plan_b103 t11 t24 h25 = some x103 := hf1
          unfold f_X12_plan_b103 at hf1
          refine r_iload_n C dX12_plan_103 rfl ?_
          refine r_sipush (v := 400) C dX12_plan_104 (by decide) ?_
          refine r_icmp_ge (tgt := 132) C dX12_plan_107 (by decide) (fun c26 => ?_) (fun c26 => ?_)
          · rw [if_pos c26] at hf1
            obtain rfl := so hf1
            obtain rfl := so (show some h25 = some y23 from hk103)
            refine r_subk [0] (lv' := [(0, .ref t11)]) rfl ?_
            exact J132 h25 t11 hf0
          · rw [if_neg c26] at hf1
            refine r_aload_n C dX12_plan_110 rfl ?_
            obtain ⟨t27, e28, hf1⟩ := ob hf1
            refine r_getR C fk_X12_7 rfl dX12_plan_111 e28 ?_
            refine r_iload_n C dX12_plan_114 rfl ?_
            refine r_aload_n C dX12_plan_115 rfl ?_
            obtain ⟨t29, e30, hf1⟩ := ob hf1
            refine r_getR C fk_X12_7 rfl dX12_plan_116 e30 ?_
            refine r_sipush (v := 1600) C dX12_plan_119 (by decide) ?_
            refine r_iload_n C dX12_plan_122 rfl ?_
            refine r_iadd C dX12_plan_123 ?_
            obtain ⟨t31, e32, hf1⟩ := ob hf1
            refine r_ldI C dX12_plan_124 e32 ?_
            obtain ⟨h33, e34, hf1⟩ := ob hf1
            refine r_stI C dX12_plan_125 e34 ?_
            obtain ⟨t35, e36, hf1⟩ := ob hf1
            refine r_iinc (lv' := [(3, .int t35), (0, .ref t11)]) C dX12_plan_126 rfl e36 (by decide) rfl ?_
            refine r_goto (tgt := 103) C dX12_plan_129 (by decide) ?_
            obtain rfl := so hf1
            refine r_subk [1, 0] (lv' := [(0, .ref t11), (3, .int t35)]) rfl ?_
            exact ih103 t35 h33 hk103
      refine r_subk [1, 0] (lv' := [(0, .ref t11), (3, .int (148 : Int32))]) rfl ?_
      exact L103 wN (148 : Int32) h21 hl103
  have J57 : ∀ (h37 : aH) (t38 : Nat), f_X12_plan_j57 h37 t38 = some out → gW p l e (rmO 14 0 0) s m args below meth c (MQ below (eQ D cA B Hb out.2 (some (.int out.1))) args s 0 0 (fun q => B ≤ q)) D cA B Hb 4 h37 57 [(0, .ref t38)] [] 0 0 := by
    intro h37 t38 hf0
    unfold f_X12_plan_j57 at hf0
    refine r_aload_n C dX12_plan_57 rfl ?_
    obtain ⟨t39, e40, hf0⟩ := ob hf0
    refine r_getI C fk_X12_174 rfl dX12_plan_58 e40 ?_
    refine r_ifne (tgt := 77) C dX12_plan_61 (by decide) (fun c41 => ?_) (fun c41 => ?_)
    · rw [if_neg c41] at hf0
      exact J77 h37 t38 hf0
    · rw [if_pos c41] at hf0
      refine r_aload_n C dX12_plan_64 rfl ?_
      obtain ⟨t42, e43, hf0⟩ := ob hf0
      refine r_getI C fk_X12_310 rfl dX12_plan_65 e43 ?_
      refine r_ifle (tgt := 77) C dX12_plan_68 (by decide) (fun c44 => ?_) (fun c44 => ?_)
      · rw [if_pos c44] at hf0
        exact J77 h37 t38 hf0
      · rw [if_neg c44] at hf0
        refine r_aload_n C dX12_plan_71 rfl ?_
        refine r_iconst (v := 2) C dX12_plan_72 (by decide) ?_
        obtain ⟨u46, e45, hf0⟩ := ob hf0
        obtain ⟨t47, h48, e49, hf0⟩ := ob2 hf0
        refine r_cV (ci := 12) (rest := []) (st2 := [.int t47]) C (s_X12_fails e49) mk_X12_fails rfl (ck_k e45) (by decide) im_X12_fails sl_X12_fails lk_X12_186 rfl rfl rfl dX12_plan_73 (Nat.le_of_ble_eq_true rfl) ⟨Nat.le_of_ble_eq_true rfl, Nat.le_of_ble_eq_true rfl⟩ ⟨Nat.le_of_ble_eq_true rfl, Nat.le_of_ble_eq_true rfl⟩ ?_
        refine r_pop C dX12_plan_76 rfl ?_
        exact J77 h48 t38 hf0
  refine r_aload_n C dX12_plan_0 rfl ?_
  refine r_iload_n C dX12_plan_1 rfl ?_
  refine r_sipush (v := 300) C dX12_plan_2 (by decide) ?_
  obtain ⟨u51, e50, hf0⟩ := ob hf0
  obtain ⟨t52, h53, e54, hf0⟩ := ob2 hf0
  refine r_cV (ci := 12) (rest := []) (st2 := [.int t52]) C (s_X12_begins e54) mk_X12_begins rfl (ck_k e50) (by decide) im_X12_begins sl_X12_begins lk_X12_292 rfl rfl rfl dX12_plan_5 (Nat.le_of_ble_eq_true rfl) ⟨Nat.le_of_ble_eq_true rfl, Nat.le_of_ble_eq_true rfl⟩ ⟨Nat.le_of_ble_eq_true rfl, Nat.le_of_ble_eq_true rfl⟩ ?_
  refine r_ifne (tgt := 17) C dX12_plan_8 (by decide) (fun c55 => ?_) (fun c55 => ?_)
  · rw [if_neg c55] at hf0
    refine r_aload_n C dX12_plan_17 rfl ?_
    obtain ⟨t56, e57, hf0⟩ := ob hf0
    refine r_getR C fk_X12_7 rfl dX12_plan_18 e57 ?_
    refine r_sipush (v := 1607) C dX12_plan_21 (by decide) ?_
    refine r_iconst (v := 0) C dX12_plan_24 (by decide) ?_
    obtain ⟨h58, e59, hf0⟩ := ob hf0
    refine r_stI C dX12_plan_25 e59 ?_
    refine r_aload_n C dX12_plan_26 rfl ?_
    refine r_iconst (v := 0) C dX12_plan_27 (by decide) ?_
    obtain ⟨h60, e61, hf0⟩ := ob hf0
    refine r_putI C fk_X12_310 dX12_plan_28 e61 ?_
    refine r_aload_n C dX12_plan_31 rfl ?_
    refine r_iconst (v := 0) C dX12_plan_32 (by decide) ?_
    obtain ⟨h62, e63, hf0⟩ := ob hf0
    refine r_putI C fk_X12_313 dX12_plan_33 e63 ?_
    refine r_iconst (v := 1) C dX12_plan_36 (by decide) ?_
    refine r_istore_n (lv' := [(2, .int (1 : Int32)), (0, .ref v0), (1, .int v1)]) C dX12_plan_37 (by decide) rfl rfl ?_
    obtain ⟨y64, hl38, hf0⟩ := ob hf0
    have L38 : ∀ (n : Nat) (t65 : Int32) (h66 : aH), whileL n (fun q : Int32 × aH => f_X12_plan_b38 v0 q.1 q.2) (t65, h66) = some y64 → gW p l e (rmO 14 0 0) s m args below meth c (MQ below (eQ D cA B Hb out.2 (some (.int out.1))) args s 0 0 (fun q => B ≤ q)) D cA B Hb 4 h66 38 [(0, .ref v0), (2, .int t65)] [] 0 0 := by
      intro n
      induction n with
      | zero => intro t65 h66 hz; cases hz
      | succ n ih38 =>
        intro t65 h66 hz
        obtain ⟨x38, hf1, hk38⟩ := wl hz
        replace hf1 : f_X12_plan_b38 v0 t65 h66 = some x38 := hf1
        unfold f_X12_plan_b38 at hf1
        refine r_iload_n C dX12_plan_38 rfl ?_
        refine r_ifeq (tgt := 57) C dX12_plan_39 (by decide) (fun c67 => ?_) (fun c67 => ?_)
        · rw [if_pos c67] at hf1
          obtain rfl := so hf1
          obtain rfl := so (show some h66 = some y64 from hk38)
          refine r_subk [0] (lv' := [(0, .ref v0)]) rfl ?_
          exact J57 h66 v0 hf0
        · rw [if_neg c67] at hf1
          refine r_aload_n C dX12_plan_42 rfl ?_
          obtain ⟨t68, e69, hf1⟩ := ob hf1
          refine r_getI C fk_X12_149 rfl dX12_plan_43 e69 ?_
          refine r_ifeq (tgt := 57) C dX12_plan_46 (by decide) (fun c70 => ?_) (fun c70 => ?_)
          · rw [if_pos c70] at hf1
            obtain rfl := so hf1
            obtain rfl := so (show some h66 = some y64 from hk38)
            refine r_subk [0] (lv' := [(0, .ref v0)]) rfl ?_
            exact J57 h66 v0 hf0
          · rw [if_neg c70] at hf1
            refine r_aload_n C dX12_plan_49 rfl ?_
            obtain ⟨u72, e71, hf1⟩ := ob hf1
            obtain ⟨t73, h74, e75, hf1⟩ := ob2 hf1
            refine r_cV (ci := 12) (rest := []) (st2 := [.int t73]) C (s_X12_step e75) mk_X12_step rfl (ck_k e71) (by decide) im_X12_step sl_X12_step lk_X12_319 rfl rfl rfl dX12_plan_50 (Nat.le_of_ble_eq_true rfl) ⟨Nat.le_of_ble_eq_true rfl, Nat.le_of_ble_eq_true rfl⟩ ⟨Nat.le_of_ble_eq_true rfl, Nat.le_of_ble_eq_true rfl⟩ ?_
            refine r_istore_n (lv' := [(2, .int t73), (0, .ref v0)]) C dX12_plan_53 (by decide) rfl rfl ?_
            refine r_goto (tgt := 38) C dX12_plan_54 (by decide) ?_
            obtain rfl := so hf1
            refine r_subk [1, 0] (lv' := [(0, .ref v0), (2, .int t73)]) rfl ?_
            exact ih38 t73 h74 hk38
    refine r_subk [1, 0] (lv' := [(0, .ref v0), (2, .int (1 : Int32))]) rfl ?_
    exact L38 wN (1 : Int32) h62 hl38
  · rw [if_pos c55] at hf0
    refine r_aload_n C dX12_plan_11 rfl ?_
    refine r_iconst (v := 1) C dX12_plan_12 (by decide) ?_
    obtain ⟨u77, e76, hf0⟩ := ob hf0
    obtain ⟨t78, h79, e80, hf0⟩ := ob2 hf0
    refine r_cV (ci := 12) (rest := []) (st2 := [.int t78]) C (s_X12_refuse e80) mk_X12_refuse rfl (ck_k e76) (by decide) im_X12_refuse sl_X12_refuse lk_X12_197 rfl rfl rfl dX12_plan_13 (Nat.le_of_ble_eq_true rfl) ⟨Nat.le_of_ble_eq_true rfl, Nat.le_of_ble_eq_true rfl⟩ ⟨Nat.le_of_ble_eq_true rfl, Nat.le_of_ble_eq_true rfl⟩ ?_
    obtain rfl := so hf0
    exact r_iret C dX12_plan_16
def f_X12_isWorld (h : aH) (v0 : Nat) (v1 : Int32) : Option (Int32) := if v1 < 0 then some (0 : Int32) else (gR h 12 v0 0).bind fun t1 => (lI h t1 (2 : Int32)).bind fun t2 => if t2 ≤ v1 then some (0 : Int32) else some (1 : Int32)
theorem s_X12_isWorld {h : aH} {v0 : Nat} {v1 : Int32} {out : Int32} (hf0 : f_X12_isWorld h v0 v1 = some out) : EV 0 yX12_isWorld cX12_isWorld 2 (some .boolean) h [.ref v0, .int v1] (some (.int out)) h 0 0 := by
  refine EV.of (own := RX12) (lv0 := [(0, .ref v0), (1, .int v1)]) (by decide +kernel) rfl rfl (Nat.le_of_ble_eq_true rfl) ?_
  intro p l e s m args below meth c D cA B Hb C hin
  unfold f_X12_isWorld at hf0
  refine r_iload_n C dX12_isWorld_0 rfl ?_
  refine r_iflt (tgt := 18) C dX12_isWorld_1 (by decide) (fun c1 => ?_) (fun c1 => ?_)
  · rw [if_pos c1] at hf0
    refine r_iconst (v := 0) C dX12_isWorld_18 (by decide) ?_
    obtain rfl := so hf0
    exact r_zret C dX12_isWorld_19 (Or.inl rfl)
  · rw [if_neg c1] at hf0
    refine r_iload_n C dX12_isWorld_4 rfl ?_
    refine r_aload_n C dX12_isWorld_5 rfl ?_
    obtain ⟨t2, e3, hf0⟩ := ob hf0
    refine r_getR C fk_X12_7 rfl dX12_isWorld_6 e3 ?_
    refine r_iconst (v := 2) C dX12_isWorld_9 (by decide) ?_
    obtain ⟨t4, e5, hf0⟩ := ob hf0
    refine r_ldI C dX12_isWorld_10 e5 ?_
    refine r_icmp_ge (tgt := 18) C dX12_isWorld_11 (by decide) (fun c6 => ?_) (fun c6 => ?_)
    · rw [if_pos c6] at hf0
      refine r_iconst (v := 0) C dX12_isWorld_18 (by decide) ?_
      obtain rfl := so hf0
      exact r_zret C dX12_isWorld_19 (Or.inl rfl)
    · rw [if_neg c6] at hf0
      refine r_iconst (v := 1) C dX12_isWorld_14 (by decide) ?_
      refine r_goto (tgt := 19) C dX12_isWorld_15 (by decide) ?_
      obtain rfl := so hf0
      exact r_zret C dX12_isWorld_19 (Or.inr rfl)
def f_X12_isQuestion (h : aH) (v0 : Nat) (v1 : Int32) : Option (Int32) := if v1 < 0 then some (0 : Int32) else (gR h 12 v0 0).bind fun t1 => (lI h t1 (3 : Int32)).bind fun t2 => if t2 ≤ v1 then some (0 : Int32) else some (1 : Int32)
theorem s_X12_isQuestion {h : aH} {v0 : Nat} {v1 : Int32} {out : Int32} (hf0 : f_X12_isQuestion h v0 v1 = some out) : EV 0 yX12_isQuestion cX12_isQuestion 2 (some .boolean) h [.ref v0, .int v1] (some (.int out)) h 0 0 := by
  refine EV.of (own := RX12) (lv0 := [(0, .ref v0), (1, .int v1)]) (by decide +kernel) rfl rfl (Nat.le_of_ble_eq_true rfl) ?_
  intro p l e s m args below meth c D cA B Hb C hin
  unfold f_X12_isQuestion at hf0
  refine r_iload_n C dX12_isQuestion_0 rfl ?_
  refine r_iflt (tgt := 18) C dX12_isQuestion_1 (by decide) (fun c1 => ?_) (fun c1 => ?_)
  · rw [if_pos c1] at hf0
    refine r_iconst (v := 0) C dX12_isQuestion_18 (by decide) ?_
    obtain rfl := so hf0
    exact r_zret C dX12_isQuestion_19 (Or.inl rfl)
  · rw [if_neg c1] at hf0
    refine r_iload_n C dX12_isQuestion_4 rfl ?_
    refine r_aload_n C dX12_isQuestion_5 rfl ?_
    obtain ⟨t2, e3, hf0⟩ := ob hf0
    refine r_getR C fk_X12_7 rfl dX12_isQuestion_6 e3 ?_
    refine r_iconst (v := 3) C dX12_isQuestion_9 (by decide) ?_
    obtain ⟨t4, e5, hf0⟩ := ob hf0
    refine r_ldI C dX12_isQuestion_10 e5 ?_
    refine r_icmp_ge (tgt := 18) C dX12_isQuestion_11 (by decide) (fun c6 => ?_) (fun c6 => ?_)
    · rw [if_pos c6] at hf0
      refine r_iconst (v := 0) C dX12_isQuestion_18 (by decide) ?_
      obtain rfl := so hf0
      exact r_zret C dX12_isQuestion_19 (Or.inl rfl)
    · rw [if_neg c6] at hf0
      refine r_iconst (v := 1) C dX12_isQuestion_14 (by decide) ?_
      refine r_goto (tgt := 19) C dX12_isQuestion_15 (by decide) ?_
      obtain rfl := so hf0
      exact r_zret C dX12_isQuestion_19 (Or.inr rfl)
def f_X12_isWitness (h : aH) (v0 : Nat) (v1 : Int32) : Option (Int32) := if v1 < 0 then some (0 : Int32) else (gR h 12 v0 0).bind fun t1 => (lI h t1 (4 : Int32)).bind fun t2 => if t2 ≤ v1 then some (0 : Int32) else some (1 : Int32)
theorem s_X12_isWitness {h : aH} {v0 : Nat} {v1 : Int32} {out : Int32} (hf0 : f_X12_isWitness h v0 v1 = some out) : EV 0 yX12_isWitness cX12_isWitness 2 (some .boolean) h [.ref v0, .int v1] (some (.int out)) h 0 0 := by
  refine EV.of (own := RX12) (lv0 := [(0, .ref v0), (1, .int v1)]) (by decide +kernel) rfl rfl (Nat.le_of_ble_eq_true rfl) ?_
  intro p l e s m args below meth c D cA B Hb C hin
  unfold f_X12_isWitness at hf0
  refine r_iload_n C dX12_isWitness_0 rfl ?_
  refine r_iflt (tgt := 18) C dX12_isWitness_1 (by decide) (fun c1 => ?_) (fun c1 => ?_)
  · rw [if_pos c1] at hf0
    refine r_iconst (v := 0) C dX12_isWitness_18 (by decide) ?_
    obtain rfl := so hf0
    exact r_zret C dX12_isWitness_19 (Or.inl rfl)
  · rw [if_neg c1] at hf0
    refine r_iload_n C dX12_isWitness_4 rfl ?_
    refine r_aload_n C dX12_isWitness_5 rfl ?_
    obtain ⟨t2, e3, hf0⟩ := ob hf0
    refine r_getR C fk_X12_7 rfl dX12_isWitness_6 e3 ?_
    refine r_iconst (v := 4) C dX12_isWitness_9 (by decide) ?_
    obtain ⟨t4, e5, hf0⟩ := ob hf0
    refine r_ldI C dX12_isWitness_10 e5 ?_
    refine r_icmp_ge (tgt := 18) C dX12_isWitness_11 (by decide) (fun c6 => ?_) (fun c6 => ?_)
    · rw [if_pos c6] at hf0
      refine r_iconst (v := 0) C dX12_isWitness_18 (by decide) ?_
      obtain rfl := so hf0
      exact r_zret C dX12_isWitness_19 (Or.inl rfl)
    · rw [if_neg c6] at hf0
      refine r_iconst (v := 1) C dX12_isWitness_14 (by decide) ?_
      refine r_goto (tgt := 19) C dX12_isWitness_15 (by decide) ?_
      obtain rfl := so hf0
      exact r_zret C dX12_isWitness_19 (Or.inr rfl)
def f_X12_isKind (h : aH) (v0 : Int32) : Option (Int32) := if v0 < 0 then some (0 : Int32) else if (4 : Int32) ≤ v0 then some (0 : Int32) else some (1 : Int32)
theorem s_X12_isKind {h : aH} {v0 : Int32} {out : Int32} (hf0 : f_X12_isKind h v0 = some out) : EV 0 yX12_isKind cX12_isKind 1 (some .boolean) h [.int v0] (some (.int out)) h 0 0 := by
  refine EV.of (own := RX12) (lv0 := [(0, .int v0)]) (by decide +kernel) rfl rfl (Nat.le_of_ble_eq_true rfl) ?_
  intro p l e s m args below meth c D cA B Hb C hin
  unfold f_X12_isKind at hf0
  refine r_iload_n C dX12_isKind_0 rfl ?_
  refine r_iflt (tgt := 13) C dX12_isKind_1 (by decide) (fun c1 => ?_) (fun c1 => ?_)
  · rw [if_pos c1] at hf0
    refine r_iconst (v := 0) C dX12_isKind_13 (by decide) ?_
    obtain rfl := so hf0
    exact r_zret C dX12_isKind_14 (Or.inl rfl)
  · rw [if_neg c1] at hf0
    refine r_iload_n C dX12_isKind_4 rfl ?_
    refine r_iconst (v := 4) C dX12_isKind_5 (by decide) ?_
    refine r_icmp_ge (tgt := 13) C dX12_isKind_6 (by decide) (fun c2 => ?_) (fun c2 => ?_)
    · rw [if_pos c2] at hf0
      refine r_iconst (v := 0) C dX12_isKind_13 (by decide) ?_
      obtain rfl := so hf0
      exact r_zret C dX12_isKind_14 (Or.inl rfl)
    · rw [if_neg c2] at hf0
      refine r_iconst (v := 1) C dX12_isKind_9 (by decide) ?_
      refine r_goto (tgt := 14) C dX12_isKind_10 (by decide) ?_
      obtain rfl := so hf0
      exact r_zret C dX12_isKind_14 (Or.inr rfl)
def f_X12_isIn (h : aH) (v0 : Nat) (v1 : Int32) (v2 : Int32) : Option (Int32) := (gR h 12 v0 1).bind fun t1 => (f_X12_inSet h t1 ((4 : Int32) + ((4 : Int32) * v1)) v2).bind fun t2 => (rZ t2).bind fun t3 => some t3
theorem s_X12_isIn {h : aH} {v0 : Nat} {v1 : Int32} {v2 : Int32} {out : Int32} (hf0 : f_X12_isIn h v0 v1 v2 = some out) : EV 1 yX12_isIn cX12_isIn 3 (some .boolean) h [.ref v0, .int v1, .int v2] (some (.int out)) h 0 0 := by
  refine EV.of (own := RX12) (lv0 := [(0, .ref v0), (1, .int v1), (2, .int v2)]) (by decide +kernel) rfl rfl (Nat.le_of_ble_eq_true rfl) ?_
  intro p l e s m args below meth c D cA B Hb C hin
  unfold f_X12_isIn at hf0
  refine r_aload_n C dX12_isIn_0 rfl ?_
  obtain ⟨t1, e2, hf0⟩ := ob hf0
  refine r_getR C fk_X12_13 rfl dX12_isIn_1 e2 ?_
  refine r_iconst (v := 4) C dX12_isIn_4 (by decide) ?_
  refine r_iconst (v := 4) C dX12_isIn_5 (by decide) ?_
  refine r_iload_n C dX12_isIn_6 rfl ?_
  refine r_imul C dX12_isIn_7 ?_
  refine r_iadd C dX12_isIn_8 ?_
  refine r_iload_n C dX12_isIn_9 rfl ?_
  obtain ⟨t3, e4, hf0⟩ := ob hf0
  refine r_cS (rest := []) (st2 := [.int t3]) C (s_X12_inSet e4) mk_X12_inSet sm_X12_inSet lk_X12_303 rfl rfl rfl dX12_isIn_10 (Nat.le_of_ble_eq_true rfl) ⟨Nat.le_of_ble_eq_true rfl, Nat.le_of_ble_eq_true rfl⟩ ⟨Nat.le_of_ble_eq_true rfl, Nat.le_of_ble_eq_true rfl⟩ ?_
  obtain ⟨t5, e6, hf0⟩ := ob hf0
  obtain ⟨rfl, e6z⟩ := rZ_k e6
  obtain rfl := so hf0
  exact r_zret C dX12_isIn_13 e6z
def f_X12_ofHeard (h : aH) (v0 : Nat) (v1 : Int32) (v2 : Int32) : Option (Int32) := (gR h 12 v0 0).bind fun t1 => (lI h t1 (((100 : Int32) + ((4 : Int32) * v1)) + v2)).bind fun t2 => some t2
theorem s_X12_ofHeard {h : aH} {v0 : Nat} {v1 : Int32} {v2 : Int32} {out : Int32} (hf0 : f_X12_ofHeard h v0 v1 v2 = some out) : EV 0 yX12_ofHeard cX12_ofHeard 3 (some .int) h [.ref v0, .int v1, .int v2] (some (.int out)) h 0 0 := by
  refine EV.of (own := RX12) (lv0 := [(0, .ref v0), (1, .int v1), (2, .int v2)]) (by decide +kernel) rfl rfl (Nat.le_of_ble_eq_true rfl) ?_
  intro p l e s m args below meth c D cA B Hb C hin
  unfold f_X12_ofHeard at hf0
  refine r_aload_n C dX12_ofHeard_0 rfl ?_
  obtain ⟨t1, e2, hf0⟩ := ob hf0
  refine r_getR C fk_X12_7 rfl dX12_ofHeard_1 e2 ?_
  refine r_bipush (v := 100) C dX12_ofHeard_4 (by decide) ?_
  refine r_iconst (v := 4) C dX12_ofHeard_6 (by decide) ?_
  refine r_iload_n C dX12_ofHeard_7 rfl ?_
  refine r_imul C dX12_ofHeard_8 ?_
  refine r_iadd C dX12_ofHeard_9 ?_
  refine r_iload_n C dX12_ofHeard_10 rfl ?_
  refine r_iadd C dX12_ofHeard_11 ?_
  obtain ⟨t3, e4, hf0⟩ := ob hf0
  refine r_ldI C dX12_ofHeard_12 e4 ?_
  obtain rfl := so hf0
  exact r_iret C dX12_ofHeard_13
def f_X12_putToday_j36 (h : aH) (v0 : Nat) (v2 : Int32) (s0 : Int32) (s1 : Int32) : Option ((Int32 × Int32) ⊕ (Int32)) := (some (s0 + s1)).bind fun t1 => (some (v2 + (1 : Int32))).bind fun t2 => some (.inl (t1, t2))
def f_X12_putToday_b4 (h : aH) (v0 : Nat) (v1 : Int32) (v2 : Int32) : Option ((Int32 × Int32) ⊕ (Int32)) := (gR h 12 v0 0).bind fun t3 => (lI h t3 (6 : Int32)).bind fun t4 => if t4 ≤ v2 then some (.inr v1) else (ck h 12 v0).bind fun _ => (f_X12_ofHeard h v0 v2 (3 : Int32)).bind fun t5 => (gR h 12 v0 0).bind fun t6 => (lI h t6 (5 : Int32)).bind fun t7 => if t5 = t7 then f_X12_putToday_j36 h v0 v2 v1 (1 : Int32) else f_X12_putToday_j36 h v0 v2 v1 (0 : Int32)
def f_X12_putToday_l4 (h : aH) (v0 : Nat) (v1 : Int32) (v2 : Int32) : Option (Int32) := whileL wN (fun q : Int32 × Int32 => f_X12_putToday_b4 h v0 q.1 q.2) (v1, v2)
def f_X12_putToday (h : aH) (v0 : Nat) : Option (Int32) := (f_X12_putToday_l4 h v0 (0 : Int32) (0 : Int32)).bind fun t8 => some t8
theorem s_X12_putToday {h : aH} {v0 : Nat} {out : Int32} (hf0 : f_X12_putToday h v0 = some out) : EV 1 yX12_putToday cX12_putToday 3 (some .int) h [.ref v0] (some (.int out)) h 0 0 := by
  refine EV.of (own := RX12) (lv0 := [(0, .ref v0)]) (by decide +kernel) rfl rfl (Nat.le_of_ble_eq_true rfl) ?_
  intro p l e s m args below meth c D cA B Hb C hin
  unfold f_X12_putToday at hf0
  refine r_iconst (v := 0) C dX12_putToday_0 (by decide) ?_
  refine r_istore_n (lv' := [(1, .int (0 : Int32)), (0, .ref v0)]) C dX12_putToday_1 (by decide) rfl rfl ?_
  refine r_iconst (v := 0) C dX12_putToday_2 (by decide) ?_
  refine r_istore_n (lv' := [(2, .int (0 : Int32)), (1, .int (0 : Int32)), (0, .ref v0)]) C dX12_putToday_3 (by decide) rfl rfl ?_
  obtain ⟨y1, hl4, hf0⟩ := ob hf0
  have L4 : ∀ (n : Nat) (t2 : Int32) (t3 : Int32), whileL n (fun q : Int32 × Int32 => f_X12_putToday_b4 h v0 q.1 q.2) (t2, t3) = some y1 → gW p l e (rmO 1 0 0) s m args below meth c (MQ below (eQ D cA B Hb h (some (.int out))) args s 0 0 (fun q => B ≤ q)) D cA B Hb 3 h 4 [(0, .ref v0), (1, .int t2), (2, .int t3)] [] 0 0 := by
    intro n
    induction n with
    | zero => intro t2 t3 hz; cases hz
    | succ n ih4 =>
      intro t2 t3 hz
      obtain ⟨x4, hf1, hk4⟩ := wl hz
      replace hf1 : f_X12_putToday_b4 h v0 t2 t3 = some x4 := hf1
      unfold f_X12_putToday_b4 at hf1
      have J36 : ∀ (t4 : Int32) (t5 : Int32) (t6 : Int32), f_X12_putToday_j36 h v0 t4 t5 t6 = some x4 → gW p l e (rmO 1 0 0) s m args below meth c (MQ below (eQ D cA B Hb h (some (.int out))) args s 0 0 (fun q => B ≤ q)) D cA B Hb 3 h 36 [(0, .ref v0), (2, .int t4)] [.int t6, .int t5] 0 0 := by
        intro t4 t5 t6 hf1
        unfold f_X12_putToday_j36 at hf1
        refine r_iadd C dX12_putToday_36 ?_
        obtain ⟨t7, e8, hf1⟩ := ob hf1
        refine r_istore_n (lv' := [(1, .int t7), (0, .ref v0), (2, .int t4)]) C dX12_putToday_37 (by decide) e8 rfl ?_
        obtain ⟨t9, e10, hf1⟩ := ob hf1
        refine r_iinc (lv' := [(2, .int t9), (1, .int t7), (0, .ref v0)]) C dX12_putToday_38 rfl e10 (by decide) rfl ?_
        refine r_goto (tgt := 4) C dX12_putToday_41 (by decide) ?_
        obtain rfl := so hf1
        refine r_subk [2, 1, 0] (lv' := [(0, .ref v0), (1, .int t7), (2, .int t9)]) rfl ?_
        exact ih4 t7 t9 hk4
      refine r_iload_n C dX12_putToday_4 rfl ?_
      refine r_aload_n C dX12_putToday_5 rfl ?_
      obtain ⟨t11, e12, hf1⟩ := ob hf1
      refine r_getR C fk_X12_7 rfl dX12_putToday_6 e12 ?_
      refine r_bipush (v := 6) C dX12_putToday_9 (by decide) ?_
      obtain ⟨t13, e14, hf1⟩ := ob hf1
      refine r_ldI C dX12_putToday_11 e14 ?_
      refine r_icmp_ge (tgt := 44) C dX12_putToday_12 (by decide) (fun c15 => ?_) (fun c15 => ?_)
      · rw [if_pos c15] at hf1
        obtain rfl := so hf1
        obtain rfl := so (show some t2 = some y1 from hk4)
        refine r_iload_n C dX12_putToday_44 rfl ?_
        obtain rfl := so hf0
        exact r_iret C dX12_putToday_45
      · rw [if_neg c15] at hf1
        refine r_iload_n C dX12_putToday_15 rfl ?_
        refine r_aload_n C dX12_putToday_16 rfl ?_
        refine r_iload_n C dX12_putToday_17 rfl ?_
        refine r_iconst (v := 3) C dX12_putToday_18 (by decide) ?_
        obtain ⟨u17, e16, hf1⟩ := ob hf1
        obtain ⟨t18, e19, hf1⟩ := ob hf1
        refine r_cV (ci := 12) (rest := [.int t2]) (st2 := [.int t18, .int t2]) C (s_X12_ofHeard e19) mk_X12_ofHeard rfl (ck_k e16) (by decide) im_X12_ofHeard sl_X12_ofHeard lk_X12_322 rfl rfl rfl dX12_putToday_19 (Nat.le_of_ble_eq_true rfl) ⟨Nat.le_of_ble_eq_true rfl, Nat.le_of_ble_eq_true rfl⟩ ⟨Nat.le_of_ble_eq_true rfl, Nat.le_of_ble_eq_true rfl⟩ ?_
        refine r_aload_n C dX12_putToday_22 rfl ?_
        obtain ⟨t20, e21, hf1⟩ := ob hf1
        refine r_getR C fk_X12_7 rfl dX12_putToday_23 e21 ?_
        refine r_iconst (v := 5) C dX12_putToday_26 (by decide) ?_
        obtain ⟨t22, e23, hf1⟩ := ob hf1
        refine r_ldI C dX12_putToday_27 e23 ?_
        refine r_icmp_ne (tgt := 35) C dX12_putToday_28 (by decide) (fun c24 => ?_) (fun c24 => ?_)
        · rw [if_neg c24] at hf1
          refine r_iconst (v := 0) C dX12_putToday_35 (by decide) ?_
          refine r_subk [0, 2] (lv' := [(0, .ref v0), (2, .int t3)]) rfl ?_
          exact J36 t3 t2 (0 : Int32) hf1
        · rw [if_pos c24] at hf1
          refine r_iconst (v := 1) C dX12_putToday_31 (by decide) ?_
          refine r_goto (tgt := 36) C dX12_putToday_32 (by decide) ?_
          refine r_subk [0, 2] (lv' := [(0, .ref v0), (2, .int t3)]) rfl ?_
          exact J36 t3 t2 (1 : Int32) hf1
  refine r_subk [2, 1, 0] (lv' := [(0, .ref v0), (1, .int (0 : Int32)), (2, .int (0 : Int32))]) rfl ?_
  exact L4 wN (0 : Int32) (0 : Int32) hl4
def f_X12_told_j38 (h : aH) (s0 : Nat) (s1 : Int32) : Option (Int32 × aH) := (ck h 12 s0).bind fun _ => bd2 (f_X12_gives h s0 s1) fun t1 h2 => some (t1, h2)
def f_X12_told_j10 (h : aH) (v0 : Nat) : Option (Int32 × aH) := (ck h 12 v0).bind fun _ => bd2 (f_X12_refuse h v0 (1 : Int32)) fun t3 h4 => some (t3, h4)
def f_X12_told (h : aH) (v0 : Nat) (v1 : Int32) : Option (Int32 × aH) := if v1 < 0 then f_X12_told_j10 h v0 else if v1 ≤ (7 : Int32) then if v1 = (7 : Int32) then (ck h 12 v0).bind fun _ => (f_X12_putToday h v0).bind fun t7 => f_X12_told_j38 h v0 t7 else (gR h 12 v0 0).bind fun t5 => (lI h t5 v1).bind fun t6 => f_X12_told_j38 h v0 t6 else f_X12_told_j10 h v0
theorem s_X12_told {h : aH} {v0 : Nat} {v1 : Int32} {out : Int32 × aH} (hf0 : f_X12_told h v0 v1 = some out) : EV 2 yX12_told cX12_told 2 (some .int) h [.ref v0, .int v1] (some (.int out.1)) out.2 0 0 := by
  refine EV.of (own := RX12) (lv0 := [(0, .ref v0), (1, .int v1)]) (by decide +kernel) rfl rfl (Nat.le_of_ble_eq_true rfl) ?_
  intro p l e s m args below meth c D cA B Hb C hin
  unfold f_X12_told at hf0
  have J38 : ∀ (h1 : aH) (t2 : Nat) (t3 : Int32), f_X12_told_j38 h1 t2 t3 = some out → gW p l e (rmO 2 0 0) s m args below meth c (MQ below (eQ D cA B Hb out.2 (some (.int out.1))) args s 0 0 (fun q => B ≤ q)) D cA B Hb 2 h1 38 [] [.int t3, .ref t2] 0 0 := by
    intro h1 t2 t3 hf0
    unfold f_X12_told_j38 at hf0
    obtain ⟨u5, e4, hf0⟩ := ob hf0
    obtain ⟨t6, h7, e8, hf0⟩ := ob2 hf0
    refine r_cV (ci := 12) (rest := []) (st2 := [.int t6]) C (s_X12_gives e8) mk_X12_gives rfl (ck_k e4) (by decide) im_X12_gives sl_X12_gives lk_X12_200 rfl rfl rfl dX12_told_38 (Nat.le_of_ble_eq_true rfl) ⟨Nat.le_of_ble_eq_true rfl, Nat.le_of_ble_eq_true rfl⟩ ⟨Nat.le_of_ble_eq_true rfl, Nat.le_of_ble_eq_true rfl⟩ ?_
    obtain rfl := so hf0
    exact r_iret C dX12_told_41
  have J10 : ∀ (h9 : aH) (t10 : Nat), f_X12_told_j10 h9 t10 = some out → gW p l e (rmO 2 0 0) s m args below meth c (MQ below (eQ D cA B Hb out.2 (some (.int out.1))) args s 0 0 (fun q => B ≤ q)) D cA B Hb 2 h9 10 [(0, .ref t10)] [] 0 0 := by
    intro h9 t10 hf0
    unfold f_X12_told_j10 at hf0
    refine r_aload_n C dX12_told_10 rfl ?_
    refine r_iconst (v := 1) C dX12_told_11 (by decide) ?_
    obtain ⟨u12, e11, hf0⟩ := ob hf0
    obtain ⟨t13, h14, e15, hf0⟩ := ob2 hf0
    refine r_cV (ci := 12) (rest := []) (st2 := [.int t13]) C (s_X12_refuse e15) mk_X12_refuse rfl (ck_k e11) (by decide) im_X12_refuse sl_X12_refuse lk_X12_197 rfl rfl rfl dX12_told_12 (Nat.le_of_ble_eq_true rfl) ⟨Nat.le_of_ble_eq_true rfl, Nat.le_of_ble_eq_true rfl⟩ ⟨Nat.le_of_ble_eq_true rfl, Nat.le_of_ble_eq_true rfl⟩ ?_
    refine r_goto (tgt := 41) C dX12_told_15 (by decide) ?_
    obtain rfl := so hf0
    exact r_iret C dX12_told_41
  refine r_iload_n C dX12_told_0 rfl ?_
  refine r_iflt (tgt := 10) C dX12_told_1 (by decide) (fun c16 => ?_) (fun c16 => ?_)
  · rw [if_pos c16] at hf0
    refine r_subk [0] (lv' := [(0, .ref v0)]) rfl ?_
    exact J10 h v0 hf0
  · rw [if_neg c16] at hf0
    refine r_iload_n C dX12_told_4 rfl ?_
    refine r_bipush (v := 7) C dX12_told_5 (by decide) ?_
    refine r_icmp_le (tgt := 18) C dX12_told_7 (by decide) (fun c17 => ?_) (fun c17 => ?_)
    · rw [if_pos c17] at hf0
      refine r_aload_n C dX12_told_18 rfl ?_
      refine r_iload_n C dX12_told_19 rfl ?_
      refine r_bipush (v := 7) C dX12_told_20 (by decide) ?_
      refine r_icmp_ne (tgt := 32) C dX12_told_22 (by decide) (fun c18 => ?_) (fun c18 => ?_)
      · rw [if_neg c18] at hf0
        refine r_aload_n C dX12_told_32 rfl ?_
        obtain ⟨t19, e20, hf0⟩ := ob hf0
        refine r_getR C fk_X12_7 rfl dX12_told_33 e20 ?_
        refine r_iload_n C dX12_told_36 rfl ?_
        obtain ⟨t21, e22, hf0⟩ := ob hf0
        refine r_ldI C dX12_told_37 e22 ?_
        refine r_subk [] (lv' := []) rfl ?_
        exact J38 h v0 t21 hf0
      · rw [if_pos c18] at hf0
        refine r_aload_n C dX12_told_25 rfl ?_
        obtain ⟨u24, e23, hf0⟩ := ob hf0
        obtain ⟨t25, e26, hf0⟩ := ob hf0
        refine r_cV (ci := 12) (rest := [.ref v0]) (st2 := [.int t25, .ref v0]) C (s_X12_putToday e26) mk_X12_putToday rfl (ck_k e23) (by decide) im_X12_putToday sl_X12_putToday lk_X12_325 rfl rfl rfl dX12_told_26 (Nat.le_of_ble_eq_true rfl) ⟨Nat.le_of_ble_eq_true rfl, Nat.le_of_ble_eq_true rfl⟩ ⟨Nat.le_of_ble_eq_true rfl, Nat.le_of_ble_eq_true rfl⟩ ?_
        refine r_goto (tgt := 38) C dX12_told_29 (by decide) ?_
        refine r_subk [] (lv' := []) rfl ?_
        exact J38 h v0 t25 hf0
    · rw [if_neg c17] at hf0
      refine r_subk [0] (lv' := [(0, .ref v0)]) rfl ?_
      exact J10 h v0 hf0
def f_X12_value_j45 (h : aH) (v1 : Int32) (s0 : Nat) (s1 : Nat) (s2 : Int32) : Option (Int32 × aH) := (lI h s1 (s2 + v1)).bind fun t1 => (ck h 12 s0).bind fun _ => bd2 (f_X12_gives h s0 t1) fun t2 h3 => some (t2, h3)
def f_X12_value_j23 (h : aH) (v0 : Nat) : Option (Int32 × aH) := (ck h 12 v0).bind fun _ => bd2 (f_X12_refuse h v0 (1 : Int32)) fun t4 h5 => some (t4, h5)
def f_X12_value (h : aH) (v0 : Nat) (v1 : Int32) (v2 : Int32) : Option (Int32 × aH) := if v1 < 0 then f_X12_value_j23 h v0 else (gR h 12 v0 0).bind fun t6 => (lI h t6 (1 : Int32)).bind fun t7 => if t7 ≤ v1 then f_X12_value_j23 h v0 else if v2 < 0 then f_X12_value_j23 h v0 else if v2 ≤ (1 : Int32) then (gR h 12 v0 0).bind fun t8 => if v2 = 0 then f_X12_value_j45 h v1 v0 t8 (8 : Int32) else f_X12_value_j45 h v1 v0 t8 (32 : Int32) else f_X12_value_j23 h v0
theorem s_X12_value {h : aH} {v0 : Nat} {v1 : Int32} {v2 : Int32} {out : Int32 × aH} (hf0 : f_X12_value h v0 v1 v2 = some out) : EV 1 yX12_value cX12_value 3 (some .int) h [.ref v0, .int v1, .int v2] (some (.int out.1)) out.2 0 0 := by
  refine EV.of (own := RX12) (lv0 := [(0, .ref v0), (1, .int v1), (2, .int v2)]) (by decide +kernel) rfl rfl (Nat.le_of_ble_eq_true rfl) ?_
  intro p l e s m args below meth c D cA B Hb C hin
  unfold f_X12_value at hf0
  have J45 : ∀ (h1 : aH) (t2 : Int32) (t3 : Nat) (t4 : Nat) (t5 : Int32), f_X12_value_j45 h1 t2 t3 t4 t5 = some out → gW p l e (rmO 1 0 0) s m args below meth c (MQ below (eQ D cA B Hb out.2 (some (.int out.1))) args s 0 0 (fun q => B ≤ q)) D cA B Hb 3 h1 45 [(1, .int t2)] [.int t5, .ref t4, .ref t3] 0 0 := by
    intro h1 t2 t3 t4 t5 hf0
    unfold f_X12_value_j45 at hf0
    refine r_iload_n C dX12_value_45 rfl ?_
    refine r_iadd C dX12_value_46 ?_
    obtain ⟨t6, e7, hf0⟩ := ob hf0
    refine r_ldI C dX12_value_47 e7 ?_
    obtain ⟨u9, e8, hf0⟩ := ob hf0
    obtain ⟨t10, h11, e12, hf0⟩ := ob2 hf0
    refine r_cV (ci := 12) (rest := []) (st2 := [.int t10]) C (s_X12_gives e12) mk_X12_gives rfl (ck_k e8) (by decide) im_X12_gives sl_X12_gives lk_X12_200 rfl rfl rfl dX12_value_48 (Nat.le_of_ble_eq_true rfl) ⟨Nat.le_of_ble_eq_true rfl, Nat.le_of_ble_eq_true rfl⟩ ⟨Nat.le_of_ble_eq_true rfl, Nat.le_of_ble_eq_true rfl⟩ ?_
    obtain rfl := so hf0
    exact r_iret C dX12_value_51
  have J23 : ∀ (h13 : aH) (t14 : Nat), f_X12_value_j23 h13 t14 = some out → gW p l e (rmO 1 0 0) s m args below meth c (MQ below (eQ D cA B Hb out.2 (some (.int out.1))) args s 0 0 (fun q => B ≤ q)) D cA B Hb 3 h13 23 [(0, .ref t14)] [] 0 0 := by
    intro h13 t14 hf0
    unfold f_X12_value_j23 at hf0
    refine r_aload_n C dX12_value_23 rfl ?_
    refine r_iconst (v := 1) C dX12_value_24 (by decide) ?_
    obtain ⟨u16, e15, hf0⟩ := ob hf0
    obtain ⟨t17, h18, e19, hf0⟩ := ob2 hf0
    refine r_cV (ci := 12) (rest := []) (st2 := [.int t17]) C (s_X12_refuse e19) mk_X12_refuse rfl (ck_k e15) (by decide) im_X12_refuse sl_X12_refuse lk_X12_197 rfl rfl rfl dX12_value_25 (Nat.le_of_ble_eq_true rfl) ⟨Nat.le_of_ble_eq_true rfl, Nat.le_of_ble_eq_true rfl⟩ ⟨Nat.le_of_ble_eq_true rfl, Nat.le_of_ble_eq_true rfl⟩ ?_
    obtain rfl := so hf0
    exact r_iret C dX12_value_28
  refine r_iload_n C dX12_value_0 rfl ?_
  refine r_iflt (tgt := 23) C dX12_value_1 (by decide) (fun c20 => ?_) (fun c20 => ?_)
  · rw [if_pos c20] at hf0
    refine r_subk [0] (lv' := [(0, .ref v0)]) rfl ?_
    exact J23 h v0 hf0
  · rw [if_neg c20] at hf0
    refine r_iload_n C dX12_value_4 rfl ?_
    refine r_aload_n C dX12_value_5 rfl ?_
    obtain ⟨t21, e22, hf0⟩ := ob hf0
    refine r_getR C fk_X12_7 rfl dX12_value_6 e22 ?_
    refine r_iconst (v := 1) C dX12_value_9 (by decide) ?_
    obtain ⟨t23, e24, hf0⟩ := ob hf0
    refine r_ldI C dX12_value_10 e24 ?_
    refine r_icmp_ge (tgt := 23) C dX12_value_11 (by decide) (fun c25 => ?_) (fun c25 => ?_)
    · rw [if_pos c25] at hf0
      refine r_subk [0] (lv' := [(0, .ref v0)]) rfl ?_
      exact J23 h v0 hf0
    · rw [if_neg c25] at hf0
      refine r_iload_n C dX12_value_14 rfl ?_
      refine r_iflt (tgt := 23) C dX12_value_15 (by decide) (fun c26 => ?_) (fun c26 => ?_)
      · rw [if_pos c26] at hf0
        refine r_subk [0] (lv' := [(0, .ref v0)]) rfl ?_
        exact J23 h v0 hf0
      · rw [if_neg c26] at hf0
        refine r_iload_n C dX12_value_18 rfl ?_
        refine r_iconst (v := 1) C dX12_value_19 (by decide) ?_
        refine r_icmp_le (tgt := 29) C dX12_value_20 (by decide) (fun c27 => ?_) (fun c27 => ?_)
        · rw [if_pos c27] at hf0
          refine r_aload_n C dX12_value_29 rfl ?_
          refine r_aload_n C dX12_value_30 rfl ?_
          obtain ⟨t28, e29, hf0⟩ := ob hf0
          refine r_getR C fk_X12_7 rfl dX12_value_31 e29 ?_
          refine r_iload_n C dX12_value_34 rfl ?_
          refine r_ifne (tgt := 43) C dX12_value_35 (by decide) (fun c30 => ?_) (fun c30 => ?_)
          · rw [if_neg c30] at hf0
            refine r_bipush (v := 32) C dX12_value_43 (by decide) ?_
            refine r_subk [1] (lv' := [(1, .int v1)]) rfl ?_
            exact J45 h v1 v0 t28 (32 : Int32) hf0
          · rw [if_pos c30] at hf0
            refine r_bipush (v := 8) C dX12_value_38 (by decide) ?_
            refine r_goto (tgt := 45) C dX12_value_40 (by decide) ?_
            refine r_subk [1] (lv' := [(1, .int v1)]) rfl ?_
            exact J45 h v1 v0 t28 (8 : Int32) hf0
        · rw [if_neg c27] at hf0
          refine r_subk [0] (lv' := [(0, .ref v0)]) rfl ?_
          exact J23 h v0 hf0
def f_X12_world_j36 (h : aH) (v0 : Nat) : Option (Int32 × aH) := (ck h 12 v0).bind fun _ => bd2 (f_X12_refuse h v0 (1 : Int32)) fun t1 h2 => some (t1, h2)
def f_X12_world (h : aH) (v0 : Nat) (v1 : Int32) (v2 : Int32) : Option (Int32 × aH) := (ck h 12 v0).bind fun _ => (f_X12_isWorld h v0 v1).bind fun t3 => if t3 = 0 then f_X12_world_j36 h v0 else if v2 < 0 then f_X12_world_j36 h v0 else (gR h 12 v0 0).bind fun t4 => (lI h t4 (0 : Int32)).bind fun t5 => if t5 ≤ v2 then f_X12_world_j36 h v0 else (ck h 12 v0).bind fun _ => (f_X12_valueIn h v0 (0 : Int32) v1 v2).bind fun t6 => (ck h 12 v0).bind fun _ => bd2 (f_X12_gives h v0 t6) fun t7 h8 => some (t7, h8)
theorem s_X12_world {h : aH} {v0 : Nat} {v1 : Int32} {v2 : Int32} {out : Int32 × aH} (hf0 : f_X12_world h v0 v1 v2 = some out) : EV 1 yX12_world cX12_world 3 (some .int) h [.ref v0, .int v1, .int v2] (some (.int out.1)) out.2 0 0 := by
  refine EV.of (own := RX12) (lv0 := [(0, .ref v0), (1, .int v1), (2, .int v2)]) (by decide +kernel) rfl rfl (Nat.le_of_ble_eq_true rfl) ?_
  intro p l e s m args below meth c D cA B Hb C hin
  unfold f_X12_world at hf0
  have J36 : ∀ (h1 : aH) (t2 : Nat), f_X12_world_j36 h1 t2 = some out → gW p l e (rmO 1 0 0) s m args below meth c (MQ below (eQ D cA B Hb out.2 (some (.int out.1))) args s 0 0 (fun q => B ≤ q)) D cA B Hb 3 h1 36 [(0, .ref t2)] [] 0 0 := by
    intro h1 t2 hf0
    unfold f_X12_world_j36 at hf0
    refine r_aload_n C dX12_world_36 rfl ?_
    refine r_iconst (v := 1) C dX12_world_37 (by decide) ?_
    obtain ⟨u4, e3, hf0⟩ := ob hf0
    obtain ⟨t5, h6, e7, hf0⟩ := ob2 hf0
    refine r_cV (ci := 12) (rest := []) (st2 := [.int t5]) C (s_X12_refuse e7) mk_X12_refuse rfl (ck_k e3) (by decide) im_X12_refuse sl_X12_refuse lk_X12_197 rfl rfl rfl dX12_world_38 (Nat.le_of_ble_eq_true rfl) ⟨Nat.le_of_ble_eq_true rfl, Nat.le_of_ble_eq_true rfl⟩ ⟨Nat.le_of_ble_eq_true rfl, Nat.le_of_ble_eq_true rfl⟩ ?_
    obtain rfl := so hf0
    exact r_iret C dX12_world_41
  refine r_aload_n C dX12_world_0 rfl ?_
  refine r_iload_n C dX12_world_1 rfl ?_
  obtain ⟨u9, e8, hf0⟩ := ob hf0
  obtain ⟨t10, e11, hf0⟩ := ob hf0
  refine r_cV (ci := 12) (rest := []) (st2 := [.int t10]) C (s_X12_isWorld e11) mk_X12_isWorld rfl (ck_k e8) (by decide) im_X12_isWorld sl_X12_isWorld lk_X12_328 rfl rfl rfl dX12_world_2 (Nat.le_of_ble_eq_true rfl) ⟨Nat.le_of_ble_eq_true rfl, Nat.le_of_ble_eq_true rfl⟩ ⟨Nat.le_of_ble_eq_true rfl, Nat.le_of_ble_eq_true rfl⟩ ?_
  refine r_ifeq (tgt := 36) C dX12_world_5 (by decide) (fun c12 => ?_) (fun c12 => ?_)
  · rw [if_pos c12] at hf0
    refine r_subk [0] (lv' := [(0, .ref v0)]) rfl ?_
    exact J36 h v0 hf0
  · rw [if_neg c12] at hf0
    refine r_iload_n C dX12_world_8 rfl ?_
    refine r_iflt (tgt := 36) C dX12_world_9 (by decide) (fun c13 => ?_) (fun c13 => ?_)
    · rw [if_pos c13] at hf0
      refine r_subk [0] (lv' := [(0, .ref v0)]) rfl ?_
      exact J36 h v0 hf0
    · rw [if_neg c13] at hf0
      refine r_iload_n C dX12_world_12 rfl ?_
      refine r_aload_n C dX12_world_13 rfl ?_
      obtain ⟨t14, e15, hf0⟩ := ob hf0
      refine r_getR C fk_X12_7 rfl dX12_world_14 e15 ?_
      refine r_iconst (v := 0) C dX12_world_17 (by decide) ?_
      obtain ⟨t16, e17, hf0⟩ := ob hf0
      refine r_ldI C dX12_world_18 e17 ?_
      refine r_icmp_ge (tgt := 36) C dX12_world_19 (by decide) (fun c18 => ?_) (fun c18 => ?_)
      · rw [if_pos c18] at hf0
        refine r_subk [0] (lv' := [(0, .ref v0)]) rfl ?_
        exact J36 h v0 hf0
      · rw [if_neg c18] at hf0
        refine r_aload_n C dX12_world_22 rfl ?_
        refine r_aload_n C dX12_world_23 rfl ?_
        refine r_iconst (v := 0) C dX12_world_24 (by decide) ?_
        refine r_iload_n C dX12_world_25 rfl ?_
        refine r_iload_n C dX12_world_26 rfl ?_
        obtain ⟨u20, e19, hf0⟩ := ob hf0
        obtain ⟨t21, e22, hf0⟩ := ob hf0
        refine r_cV (ci := 12) (rest := [.ref v0]) (st2 := [.int t21, .ref v0]) C (s_X12_valueIn e22) mk_X12_valueIn rfl (ck_k e19) (by decide) im_X12_valueIn sl_X12_valueIn lk_X12_234 rfl rfl rfl dX12_world_27 (Nat.le_of_ble_eq_true rfl) ⟨Nat.le_of_ble_eq_true rfl, Nat.le_of_ble_eq_true rfl⟩ ⟨Nat.le_of_ble_eq_true rfl, Nat.le_of_ble_eq_true rfl⟩ ?_
        obtain ⟨u24, e23, hf0⟩ := ob hf0
        obtain ⟨t25, h26, e27, hf0⟩ := ob2 hf0
        refine r_cV (ci := 12) (rest := []) (st2 := [.int t25]) C (s_X12_gives e27) mk_X12_gives rfl (ck_k e23) (by decide) im_X12_gives sl_X12_gives lk_X12_200 rfl rfl rfl dX12_world_30 (Nat.le_of_ble_eq_true rfl) ⟨Nat.le_of_ble_eq_true rfl, Nat.le_of_ble_eq_true rfl⟩ ⟨Nat.le_of_ble_eq_true rfl, Nat.le_of_ble_eq_true rfl⟩ ?_
        refine r_goto (tgt := 41) C dX12_world_33 (by decide) ?_
        obtain rfl := so hf0
        exact r_iret C dX12_world_41
