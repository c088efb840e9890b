def f_X2_takeNames_j29 (h : aH) (v0 : Nat) (v1 : Int32) (v2 : Int32) (v3 : Int32) (v4 : Int32) : Option ((Int32 × Int32 × aH) ⊕ ((aH) ⊕ (aH) ⊕ (Int32 × aH))) := (gR h 2 v0 0).bind fun t1 => (gR h 2 v0 6).bind fun t2 => (gR h 1 t2 0).bind fun t3 => (ck h 4 t1).bind fun _ => bd2 (f_X4_seekName h t1 t3 v1) fun t4 h5 => if t4 = (-1 : Int32) then some (.inr (.inl h5)) else if ((v3 >>> (t4 &&& 31)) &&& (1 : Int32)) = 0 then (some (v3 ||| ((1 : Int32) <<< (t4 &&& 31)))).bind fun t6 => (gR h5 2 v0 0).bind fun t7 => (ck h5 4 t7).bind fun _ => (f_X4_advance h5 t7).bind fun h8 => (some (v4 + (1 : Int32))).bind fun t9 => some (.inl (t6, t9, h8)) else some (.inr (.inr (.inl h5)))
def f_X2_takeNames_b5 (v0 : Nat) (v1 : Int32) (v2 : Int32) (v3 : Int32) (v4 : Int32) (h : aH) : Option ((Int32 × Int32 × aH) ⊕ ((aH) ⊕ (aH) ⊕ (Int32 × aH))) := if (901 : Int32) ≤ v4 then some (.inr (.inr (.inr (v3, h)))) else if v4 = 0 then f_X2_takeNames_j29 h v0 v1 v2 v3 v4 else (gR h 2 v0 0).bind fun t10 => (gI h 4 t10 10).bind fun t11 => if t11 = v2 then some (.inr (.inr (.inr (v3, h)))) else f_X2_takeNames_j29 h v0 v1 v2 v3 v4
def f_X2_takeNames_l5 (v0 : Nat) (v1 : Int32) (v2 : Int32) (v3 : Int32) (v4 : Int32) (h : aH) : Option ((aH) ⊕ (aH) ⊕ (Int32 × aH)) := whileL wN (fun q : Int32 × Int32 × aH => f_X2_takeNames_b5 v0 v1 v2 q.1 q.2.1 q.2.2) (v3, v4, h)
def f_X2_takeNames (h : aH) (v0 : Nat) (v1 : Int32) (v2 : Int32) : Option (Int32 × aH) := (f_X2_takeNames_l5 v0 v1 v2 (0 : Int32) (0 : Int32) h).bind fun e => match e with | .inl h12 => some ((0 : Int32), h12) | .inr (.inl h13) => (gR h13 2 v0 0).bind fun t14 => (ck h13 4 t14).bind fun _ => bd2 (f_X4_refuseHere h13 t14 (5 : Int32)) fun t15 h16 => some ((0 : Int32), h16) | .inr (.inr (t17, h18)) => some (t17, h18)
theorem s_X2_takeNames {h : aH} {v0 : Nat} {v1 : Int32} {v2 : Int32} {out : Int32 × aH} (hf0 : f_X2_takeNames h v0 v1 v2 = some out) : EV 2 yX2_takeNames cX2_takeNames 6 (some .int) h [.ref v0, .int v1, .int v2] (some (.int out.1)) out.2 0 0 := by
  refine EV.of (own := RX2) (lv0 := [(0, .ref v0), (1, .int v1), (2, .int v2)]) (by decide +kernel) rfl rfl (Nat.le_of_ble_eq_true rfl) ?_
  intro p l e s m args below meth c D cA B Hb C hin
  unfold f_X2_takeNames at hf0
  refine r_iconst (v := 0) C dX2_takeNames_0 (by decide) ?_
  refine r_istore_n (lv' := [(3, .int (0 : Int32)), (0, .ref v0), (1, .int v1), (2, .int v2)]) C dX2_takeNames_1 (by decide) rfl rfl ?_
  refine r_iconst (v := 0) C dX2_takeNames_2 (by decide) ?_
  refine r_istore (lv' := [(4, .int (0 : Int32)), (3, .int (0 : Int32)), (0, .ref v0), (1, .int v1), (2, .int v2)]) C dX2_takeNames_3 (by decide) rfl rfl ?_
  obtain ⟨y1, hl5, hf0⟩ := ob hf0
  have L5 : ∀ (n : Nat) (t2 : Int32) (t3 : Int32) (h4 : aH), whileL n (fun q : Int32 × Int32 × aH => f_X2_takeNames_b5 v0 v1 v2 q.1 q.2.1 q.2.2) (t2, t3, h4) = some y1 → gW p l e (rmO 2 0 0) s m args below meth c (MQ below (eQ D cA B Hb out.2 (some (.int out.1))) args s 0 0 (fun q => B ≤ q)) D cA B Hb 6 h4 5 [(0, .ref v0), (1, .int v1), (2, .int v2), (3, .int t2), (4, .int t3)] [] 0 0 := by
    intro n
    induction n with
    | zero => intro t2 t3 h4 hz; cases hz
    | succ n ih5 =>
      intro t2 t3 h4 hz
      obtain ⟨x5, hf1, hk5⟩ := wl hz
      replace hf1 : f_X2_takeNames_b5 v0 v1 v2 t2 t3 h4 = some x5 := hf1
      unfold f_X2_takeNames_b5 at hf1
      have J29 : ∀ (h5 : aH) (t6 : Int32) (t7 : Int32), f_X2_takeNames_j29 h5 v0 v1 v2 t6 t7 = some x5 → gW p l e (rmO 2 0 0) s m args below meth c (MQ below (eQ D cA B Hb out.2 (some (.int out.1))) args s 0 0 (fun q => B ≤ q)) D cA B Hb 6 h5 29 [(0, .ref v0), (1, .int v1), (2, .int v2), (3, .int t6), (4, .int t7)] [] 0 0 := by
        intro h5 t6 t7 hf1
        unfold f_X2_takeNames_j29 at hf1
        refine r_aload_n C dX2_takeNames_29 rfl ?_
        obtain ⟨t8, e9, hf1⟩ := ob hf1
        refine r_getR C fk_X2_36 rfl dX2_takeNames_30 e9 ?_
        refine r_aload_n C dX2_takeNames_33 rfl ?_
        obtain ⟨t10, e11, hf1⟩ := ob hf1
        refine r_getR C fk_X2_40 rfl dX2_takeNames_34 e11 ?_
        obtain ⟨t12, e13, hf1⟩ := ob hf1
        refine r_getR C fk_X2_116 rfl dX2_takeNames_37 e13 ?_
        refine r_iload_n C dX2_takeNames_40 rfl ?_
        obtain ⟨u15, e14, hf1⟩ := ob hf1
        obtain ⟨t16, h17, e18, hf1⟩ := ob2 hf1
        refine r_cV (ci := 4) (rest := []) (st2 := [.int t16]) C (s_X4_seekName e18) mk_X4_seekName rfl (ck_k e14) (by decide) im_X4_seekName sl_X4_seekName lk_X2_150 rfl rfl rfl dX2_takeNames_41 (Nat.le_of_ble_eq_true rfl) ⟨Nat.le_of_ble_eq_true rfl, Nat.le_of_ble_eq_true rfl⟩ ⟨Nat.le_of_ble_eq_true rfl, Nat.le_of_ble_eq_true rfl⟩ ?_
        refine r_istore (lv' := [(5, .int t16), (0, .ref v0), (1, .int v1), (2, .int v2), (3, .int t6), (4, .int t7)]) C dX2_takeNames_44 (by decide) rfl rfl ?_
        refine r_iload C dX2_takeNames_46 rfl ?_
        refine r_iconst (v := -1) C dX2_takeNames_48 (by decide) ?_
        refine r_icmp_ne (tgt := 54) C dX2_takeNames_49 (by decide) (fun c19 => ?_) (fun c19 => ?_)
        · rw [if_neg c19] at hf1
          refine r_iload_n C dX2_takeNames_54 rfl ?_
          refine r_iload C dX2_takeNames_55 rfl ?_
          refine r_ishr C dX2_takeNames_57 ?_
          refine r_iconst (v := 1) C dX2_takeNames_58 (by decide) ?_
          refine r_iand C dX2_takeNames_59 ?_
          refine r_ifeq (tgt := 74) C dX2_takeNames_60 (by decide) (fun c20 => ?_) (fun c20 => ?_)
          · rw [if_pos c20] at hf1
            refine r_iload_n C dX2_takeNames_74 rfl ?_
            refine r_iconst (v := 1) C dX2_takeNames_75 (by decide) ?_
            refine r_iload C dX2_takeNames_76 rfl ?_
            refine r_ishl C dX2_takeNames_78 ?_
            refine r_ior C dX2_takeNames_79 ?_
            obtain ⟨t21, e22, hf1⟩ := ob hf1
            refine r_istore_n (lv' := [(3, .int t21), (5, .int t16), (0, .ref v0), (1, .int v1), (2, .int v2), (4, .int t7)]) C dX2_takeNames_80 (by decide) e22 rfl ?_
            refine r_aload_n C dX2_takeNames_81 rfl ?_
            obtain ⟨t23, e24, hf1⟩ := ob hf1
            refine r_getR C fk_X2_36 rfl dX2_takeNames_82 e24 ?_
            obtain ⟨u26, e25, hf1⟩ := ob hf1
            obtain ⟨h27, e28, hf1⟩ := ob hf1
            refine r_cV (ci := 4) (rest := []) (st2 := []) C (s_X4_advance e28) mk_X4_advance rfl (ck_k e25) (by decide) im_X4_advance sl_X4_advance lk_X2_91 rfl rfl rfl dX2_takeNames_85 (Nat.le_of_ble_eq_true rfl) ⟨Nat.le_of_ble_eq_true rfl, Nat.le_of_ble_eq_true rfl⟩ ⟨Nat.le_of_ble_eq_true rfl, Nat.le_of_ble_eq_true rfl⟩ ?_
            obtain ⟨t29, e30, hf1⟩ := ob hf1
            refine r_iinc (lv' := [(4, .int t29), (3, .int t21), (5, .int t16), (0, .ref v0), (1, .int v1), (2, .int v2)]) C dX2_takeNames_88 rfl e30 (by decide) rfl ?_
            refine r_goto (tgt := 5) C dX2_takeNames_91 (by decide) ?_
            obtain rfl := so hf1
            refine r_subk [3, 4, 5, 1, 0] (lv' := [(0, .ref v0), (1, .int v1), (2, .int v2), (3, .int t21), (4, .int t29)]) rfl ?_
            exact ih5 t21 t29 h27 hk5
          · rw [if_neg c20] at hf1
            obtain rfl := so hf1
            obtain rfl := so (show some (.inr (.inl h17) : (aH) ⊕ (aH) ⊕ (Int32 × aH)) = some y1 from hk5)
            dsimp only at hf0
            refine r_aload_n C dX2_takeNames_63 rfl ?_
            obtain ⟨t31, e32, hf0⟩ := ob hf0
            refine r_getR C fk_X2_36 rfl dX2_takeNames_64 e32 ?_
            refine r_iconst (v := 5) C dX2_takeNames_67 (by decide) ?_
            obtain ⟨u34, e33, hf0⟩ := ob hf0
            obtain ⟨t35, h36, e37, hf0⟩ := ob2 hf0
            refine r_cV (ci := 4) (rest := []) (st2 := [.int t35]) C (s_X4_refuseHere e37) mk_X4_refuseHere rfl (ck_k e33) (by decide) im_X4_refuseHere sl_X4_refuseHere lk_X2_74 rfl rfl rfl dX2_takeNames_68 (Nat.le_of_ble_eq_true rfl) ⟨Nat.le_of_ble_eq_true rfl, Nat.le_of_ble_eq_true rfl⟩ ⟨Nat.le_of_ble_eq_true rfl, Nat.le_of_ble_eq_true rfl⟩ ?_
            refine r_pop C dX2_takeNames_71 rfl ?_
            refine r_iconst (v := 0) C dX2_takeNames_72 (by decide) ?_
            obtain rfl := so hf0
            exact r_iret C dX2_takeNames_73
        · rw [if_pos c19] at hf1
          obtain rfl := so hf1
          obtain rfl := so (show some (.inl h17 : (aH) ⊕ (aH) ⊕ (Int32 × aH)) = some y1 from hk5)
          dsimp only at hf0
          refine r_iconst (v := 0) C dX2_takeNames_52 (by decide) ?_
          obtain rfl := so hf0
          exact r_iret C dX2_takeNames_53
      refine r_iload C dX2_takeNames_5 rfl ?_
      refine r_sipush (v := 901) C dX2_takeNames_7 (by decide) ?_
      refine r_icmp_ge (tgt := 94) C dX2_takeNames_10 (by decide) (fun c38 => ?_) (fun c38 => ?_)
      · rw [if_pos c38] at hf1
        obtain rfl := so hf1
        obtain rfl := so (show some (.inr (.inr (t2, h4)) : (aH) ⊕ (aH) ⊕ (Int32 × aH)) = some y1 from hk5)
        dsimp only at hf0
        refine r_iload_n C dX2_takeNames_94 rfl ?_
        obtain rfl := so hf0
        exact r_iret C dX2_takeNames_95
      · rw [if_neg c38] at hf1
        refine r_iload C dX2_takeNames_13 rfl ?_
        refine r_ifeq (tgt := 29) C dX2_takeNames_15 (by decide) (fun c39 => ?_) (fun c39 => ?_)
        · rw [if_pos c39] at hf1
          exact J29 h4 t2 t3 hf1
        · rw [if_neg c39] at hf1
          refine r_aload_n C dX2_takeNames_18 rfl ?_
          obtain ⟨t40, e41, hf1⟩ := ob hf1
          refine r_getR C fk_X2_36 rfl dX2_takeNames_19 e41 ?_
          obtain ⟨t42, e43, hf1⟩ := ob hf1
          refine r_getI C fk_X2_55 rfl dX2_takeNames_22 e43 ?_
          refine r_iload_n C dX2_takeNames_25 rfl ?_
          refine r_icmp_eq (tgt := 94) C dX2_takeNames_26 (by decide) (fun c44 => ?_) (fun c44 => ?_)
          · rw [if_pos c44] at hf1
            obtain rfl := so hf1
            obtain rfl := so (show some (.inr (.inr (t2, h4)) : (aH) ⊕ (aH) ⊕ (Int32 × aH)) = some y1 from hk5)
            dsimp only at hf0
            refine r_iload_n C dX2_takeNames_94 rfl ?_
            obtain rfl := so hf0
            exact r_iret C dX2_takeNames_95
          · rw [if_neg c44] at hf1
            exact J29 h4 t2 t3 hf1
  refine r_subk [2, 3, 4, 1, 0] (lv' := [(0, .ref v0), (1, .int v1), (2, .int v2), (3, .int (0 : Int32)), (4, .int (0 : Int32))]) rfl ?_
  exact L5 wN (0 : Int32) (0 : Int32) h hl5
def f_X2_isKind (h : aH) (v0 : Int32) : Option (Int32) := if v0 < (21 : Int32) then some (0 : Int32) else if (24 : Int32) < v0 then some (0 : Int32) else some (1 : Int32)
theorem s_X2_isKind {h : aH} {v0 : Int32} {out : Int32} (hf0 : f_X2_isKind h v0 = some out) : EV 0 yX2_isKind cX2_isKind 1 (some .boolean) h [.int v0] (some (.int out)) h 0 0 := by
  refine EV.of (own := RX2) (lv0 := [(0, .int v0)]) (by decide +kernel) rfl rfl (Nat.le_of_ble_eq_true rfl) ?_
  intro p l e s m args below meth c D cA B Hb C hin
  unfold f_X2_isKind at hf0
  refine r_iload_n C dX2_isKind_0 rfl ?_
  refine r_bipush (v := 21) C dX2_isKind_1 (by decide) ?_
  refine r_icmp_lt (tgt := 16) C dX2_isKind_3 (by decide) (fun c1 => ?_) (fun c1 => ?_)
  · rw [if_pos c1] at hf0
    refine r_iconst (v := 0) C dX2_isKind_16 (by decide) ?_
    obtain rfl := so hf0
    exact r_zret C dX2_isKind_17 (Or.inl rfl)
  · rw [if_neg c1] at hf0
    refine r_iload_n C dX2_isKind_6 rfl ?_
    refine r_bipush (v := 24) C dX2_isKind_7 (by decide) ?_
    refine r_icmp_gt (tgt := 16) C dX2_isKind_9 (by decide) (fun c2 => ?_) (fun c2 => ?_)
    · rw [if_pos c2] at hf0
      refine r_iconst (v := 0) C dX2_isKind_16 (by decide) ?_
      obtain rfl := so hf0
      exact r_zret C dX2_isKind_17 (Or.inl rfl)
    · rw [if_neg c2] at hf0
      refine r_iconst (v := 1) C dX2_isKind_12 (by decide) ?_
      refine r_goto (tgt := 17) C dX2_isKind_13 (by decide) ?_
      obtain rfl := so hf0
      exact r_zret C dX2_isKind_17 (Or.inr rfl)
def f_X2_readKinds_j178 (h : aH) (v0 : Nat) (v1 : Int32) (v2 : Int32) (v3 : Int32) : Option (Int32 × aH) := (gR h 2 v0 6).bind fun t1 => (gI h 1 t1 18).bind fun t2 => (pI h 1 t1 18 (t2 &&& ((((15 : Int32) <<< ((v1 * (4 : Int32)) &&& 31)) ^^^ (-1 : Int32)) ||| (v2 <<< ((v1 * (4 : Int32)) &&& 31))))).bind fun h3 => if v3 = (16 : Int32) then some ((1 : Int32), h3) else (gR h3 2 v0 0).bind fun t4 => (ck h3 4 t4).bind fun _ => bd2 (f_X4_refuseHere h3 t4 (8 : Int32)) fun t5 h6 => if t5 = 0 then some ((0 : Int32), h6) else some ((1 : Int32), h6)
def f_X2_readKinds_j146 (h : aH) (v0 : Nat) (v1 : Int32) (v2 : Int32) (v3 : Int32) : Option (Int32 × aH) := (gR h 2 v0 0).bind fun t7 => (gI h 4 t7 10).bind fun t8 => if t8 = (17 : Int32) then f_X2_readKinds_j178 h v0 v1 v2 v3 else (gR h 2 v0 0).bind fun t9 => (gI h 4 t9 10).bind fun t10 => if t10 = (3 : Int32) then f_X2_readKinds_j178 h v0 v1 v2 v3 else (gR h 2 v0 0).bind fun t11 => (ck h 4 t11).bind fun _ => bd2 (f_X4_refuseHere h t11 (2 : Int32)) fun t12 h13 => (rZ t12).bind fun t14 => some (t14, h13)
def f_X2_readKinds_j33 (h : aH) (v0 : Nat) (v1 : Int32) (v2 : Int32) (v3 : Int32) (v4 : Int32) : Option ((Int32 × Int32 × Int32 × aH) ⊕ ((aH) ⊕ (aH) ⊕ (aH) ⊕ (Int32 × Int32 × aH))) := (gR h 2 v0 0).bind fun t15 => (gI h 4 t15 10).bind fun t16 => (f_X2_isKind h t16).bind fun t17 => if t17 = 0 then some (.inr (.inl h)) else (gR h 2 v0 0).bind fun t18 => (gI h 4 t18 10).bind fun t19 => (some (t19 - (21 : Int32))).bind fun t20 => if ((v2 >>> (t20 &&& 31)) &&& (1 : Int32)) = 0 then (some (v2 ||| ((1 : Int32) <<< (t20 &&& 31)))).bind fun t21 => (gR h 2 v0 0).bind fun t22 => (ck h 4 t22).bind fun _ => (f_X4_advance h t22).bind fun h23 => (gR h23 2 v0 0).bind fun t24 => (ck h23 4 t24).bind fun _ => bd2 (f_X4_takeNumber h23 t24 (1 : Int32) (16 : Int32)) fun t25 h26 => if t25 = (-1 : Int32) then some (.inr (.inr (.inr (.inl h26)))) else (gR h26 2 v0 6).bind fun t27 => (gR h26 1 t27 8).bind fun t28 => (sI h26 t28 ((v1 * (4 : Int32)) + t20) t25).bind fun h29 => (some (v3 + t25)).bind fun t30 => (some (v4 + (1 : Int32))).bind fun t31 => some (.inl (t21, t30, t31, h29)) else some (.inr (.inr (.inl h)))
def f_X2_readKinds_b7 (v0 : Nat) (v1 : Int32) (v2 : Int32) (v3 : Int32) (v4 : Int32) (h : aH) : Option ((Int32 × Int32 × Int32 × aH) ⊕ ((aH) ⊕ (aH) ⊕ (aH) ⊕ (Int32 × Int32 × aH))) := if (901 : Int32) ≤ v4 then some (.inr (.inr (.inr (.inr (v2, v3, h))))) else if v4 = 0 then f_X2_readKinds_j33 h v0 v1 v2 v3 v4 else (gR h 2 v0 0).bind fun t32 => (gI h 4 t32 10).bind fun t33 => (f_X2_isKind h t33).bind fun t34 => if t34 = 0 then some (.inr (.inr (.inr (.inr (v2, v3, h))))) else f_X2_readKinds_j33 h v0 v1 v2 v3 v4
def f_X2_readKinds_l7 (v0 : Nat) (v1 : Int32) (v2 : Int32) (v3 : Int32) (v4 : Int32) (h : aH) : Option ((aH) ⊕ (aH) ⊕ (aH) ⊕ (Int32 × Int32 × aH)) := whileL wN (fun q : Int32 × Int32 × Int32 × aH => f_X2_readKinds_b7 v0 v1 q.1 q.2.1 q.2.2.1 q.2.2.2) (v2, v3, v4, h)
def f_X2_readKinds (h : aH) (v0 : Nat) (v1 : Int32) : Option (Int32 × aH) := (f_X2_readKinds_l7 v0 v1 (0 : Int32) (0 : Int32) (0 : Int32) h).bind fun e => match e with | .inl h35 => (gR h35 2 v0 0).bind fun t36 => (ck h35 4 t36).bind fun _ => bd2 (f_X4_refuseHere h35 t36 (2 : Int32)) fun t37 h38 => (rZ t37).bind fun t39 => some (t39, h38) | .inr (.inl h40) => (gR h40 2 v0 0).bind fun t41 => (ck h40 4 t41).bind fun _ => bd2 (f_X4_refuseHere h40 t41 (5 : Int32)) fun t42 h43 => (rZ t42).bind fun t44 => some (t44, h43) | .inr (.inr (.inl h45)) => some ((0 : Int32), h45) | .inr (.inr (.inr (t46, t47, h48))) => f_X2_readKinds_j146 h48 v0 v1 t46 t47
theorem s_X2_readKinds {h : aH} {v0 : Nat} {v1 : Int32} {out : Int32 × aH} (hf0 : f_X2_readKinds h v0 v1 = some out) : EV 2 yX2_readKinds cX2_readKinds 7 (some .boolean) h [.ref v0, .int v1] (some (.int out.1)) out.2 0 0 := by
  refine EV.of (own := RX2) (lv0 := [(0, .ref v0), (1, .int v1)]) (by decide +kernel) rfl rfl (Nat.le_of_ble_eq_true rfl) ?_
  intro p l e s m args below meth c D cA B Hb C hin
  unfold f_X2_readKinds at hf0
  have J178 : ∀ (h1 : aH) (t2 : Nat) (t3 : Int32) (t4 : Int32) (t5 : Int32), f_X2_readKinds_j178 h1 t2 t3 t4 t5 = some out → gW p l e (rmO 2 0 0) s m args below meth c (MQ below (eQ D cA B Hb out.2 (some (.int out.1))) args s 0 0 (fun q => B ≤ q)) D cA B Hb 7 h1 178 [(0, .ref t2), (1, .int t3), (2, .int t4), (3, .int t5)] [] 0 0 := by
    intro h1 t2 t3 t4 t5 hf0
    unfold f_X2_readKinds_j178 at hf0
    refine r_aload_n C dX2_readKinds_178 rfl ?_
    obtain ⟨t6, e7, hf0⟩ := ob hf0
    refine r_getR C fk_X2_40 rfl dX2_readKinds_179 e7 ?_
    refine r_dup C dX2_readKinds_182 rfl ?_
    obtain ⟨t8, e9, hf0⟩ := ob hf0
    refine r_getI C fk_X2_183 rfl dX2_readKinds_183 e9 ?_
    refine r_bipush (v := 15) C dX2_readKinds_186 (by decide) ?_
    refine r_iload_n C dX2_readKinds_188 rfl ?_
    refine r_iconst (v := 4) C dX2_readKinds_189 (by decide) ?_
    refine r_imul C dX2_readKinds_190 ?_
    refine r_ishl C dX2_readKinds_191 ?_
    refine r_iconst (v := -1) C dX2_readKinds_192 (by decide) ?_
    refine r_ixor C dX2_readKinds_193 ?_
    refine r_iload_n C dX2_readKinds_194 rfl ?_
    refine r_iload_n C dX2_readKinds_195 rfl ?_
    refine r_iconst (v := 4) C dX2_readKinds_196 (by decide) ?_
    refine r_imul C dX2_readKinds_197 ?_
    refine r_ishl C dX2_readKinds_198 ?_
    refine r_ior C dX2_readKinds_199 ?_
    refine r_iand C dX2_readKinds_200 ?_
    obtain ⟨h10, e11, hf0⟩ := ob hf0
    refine r_putI C fk_X2_183 dX2_readKinds_201 e11 ?_
    refine r_iload_n C dX2_readKinds_204 rfl ?_
    refine r_bipush (v := 16) C dX2_readKinds_205 (by decide) ?_
    refine r_icmp_eq (tgt := 222) C dX2_readKinds_207 (by decide) (fun c12 => ?_) (fun c12 => ?_)
    · rw [if_pos c12] at hf0
      refine r_iconst (v := 1) C dX2_readKinds_222 (by decide) ?_
      refine r_goto (tgt := 227) C dX2_readKinds_223 (by decide) ?_
      obtain rfl := so hf0
      exact r_zret C dX2_readKinds_227 (Or.inr rfl)
    · rw [if_neg c12] at hf0
      refine r_aload_n C dX2_readKinds_210 rfl ?_
      obtain ⟨t13, e14, hf0⟩ := ob hf0
      refine r_getR C fk_X2_36 rfl dX2_readKinds_211 e14 ?_
      refine r_bipush (v := 8) C dX2_readKinds_214 (by decide) ?_
      obtain ⟨u16, e15, hf0⟩ := ob hf0
      obtain ⟨t17, h18, e19, hf0⟩ := ob2 hf0
      refine r_cV (ci := 4) (rest := []) (st2 := [.int t17]) C (s_X4_refuseHere e19) mk_X4_refuseHere rfl (ck_k e15) (by decide) im_X4_refuseHere sl_X4_refuseHere lk_X2_74 rfl rfl rfl dX2_readKinds_216 (Nat.le_of_ble_eq_true rfl) ⟨Nat.le_of_ble_eq_true rfl, Nat.le_of_ble_eq_true rfl⟩ ⟨Nat.le_of_ble_eq_true rfl, Nat.le_of_ble_eq_true rfl⟩ ?_
      refine r_ifeq (tgt := 226) C dX2_readKinds_219 (by decide) (fun c20 => ?_) (fun c20 => ?_)
      · rw [if_pos c20] at hf0
        refine r_iconst (v := 0) C dX2_readKinds_226 (by decide) ?_
        obtain rfl := so hf0
        exact r_zret C dX2_readKinds_227 (Or.inl rfl)
      · rw [if_neg c20] at hf0
        refine r_iconst (v := 1) C dX2_readKinds_222 (by decide) ?_
        refine r_goto (tgt := 227) C dX2_readKinds_223 (by decide) ?_
        obtain rfl := so hf0
        exact r_zret C dX2_readKinds_227 (Or.inr rfl)
  have J146 : ∀ (h21 : aH) (t22 : Nat) (t23 : Int32) (t24 : Int32) (t25 : Int32), f_X2_readKinds_j146 h21 t22 t23 t24 t25 = some out → gW p l e (rmO 2 0 0) s m args below meth c (MQ below (eQ D cA B Hb out.2 (some (.int out.1))) args s 0 0 (fun q => B ≤ q)) D cA B Hb 7 h21 146 [(0, .ref t22), (1, .int t23), (2, .int t24), (3, .int t25)] [] 0 0 := by
    intro h21 t22 t23 t24 t25 hf0
    unfold f_X2_readKinds_j146 at hf0
    refine r_aload_n C dX2_readKinds_146 rfl ?_
    obtain ⟨t26, e27, hf0⟩ := ob hf0
    refine r_getR C fk_X2_36 rfl dX2_readKinds_147 e27 ?_
    obtain ⟨t28, e29, hf0⟩ := ob hf0
    refine r_getI C fk_X2_55 rfl dX2_readKinds_150 e29 ?_
    refine r_bipush (v := 17) C dX2_readKinds_153 (by decide) ?_
    refine r_icmp_eq (tgt := 178) C dX2_readKinds_155 (by decide) (fun c30 => ?_) (fun c30 => ?_)
    · rw [if_pos c30] at hf0
      exact J178 h21 t22 t23 t24 t25 hf0
    · rw [if_neg c30] at hf0
      refine r_aload_n C dX2_readKinds_158 rfl ?_
      obtain ⟨t31, e32, hf0⟩ := ob hf0
      refine r_getR C fk_X2_36 rfl dX2_readKinds_159 e32 ?_
      obtain ⟨t33, e34, hf0⟩ := ob hf0
      refine r_getI C fk_X2_55 rfl dX2_readKinds_162 e34 ?_
      refine r_iconst (v := 3) C dX2_readKinds_165 (by decide) ?_
      refine r_icmp_eq (tgt := 178) C dX2_readKinds_166 (by decide) (fun c35 => ?_) (fun c35 => ?_)
      · rw [if_pos c35] at hf0
        exact J178 h21 t22 t23 t24 t25 hf0
      · rw [if_neg c35] at hf0
        refine r_aload_n C dX2_readKinds_169 rfl ?_
        obtain ⟨t36, e37, hf0⟩ := ob hf0
        refine r_getR C fk_X2_36 rfl dX2_readKinds_170 e37 ?_
        refine r_iconst (v := 2) C dX2_readKinds_173 (by decide) ?_
        obtain ⟨u39, e38, hf0⟩ := ob hf0
        obtain ⟨t40, h41, e42, hf0⟩ := ob2 hf0
        refine r_cV (ci := 4) (rest := []) (st2 := [.int t40]) C (s_X4_refuseHere e42) mk_X4_refuseHere rfl (ck_k e38) (by decide) im_X4_refuseHere sl_X4_refuseHere lk_X2_74 rfl rfl rfl dX2_readKinds_174 (Nat.le_of_ble_eq_true rfl) ⟨Nat.le_of_ble_eq_true rfl, Nat.le_of_ble_eq_true rfl⟩ ⟨Nat.le_of_ble_eq_true rfl, Nat.le_of_ble_eq_true rfl⟩ ?_
        obtain ⟨t43, e44, hf0⟩ := ob hf0
        obtain ⟨rfl, e44z⟩ := rZ_k e44
        obtain rfl := so hf0
        exact r_zret C dX2_readKinds_177 e44z
  refine r_iconst (v := 0) C dX2_readKinds_0 (by decide) ?_
  refine r_istore_n (lv' := [(2, .int (0 : Int32)), (0, .ref v0), (1, .int v1)]) C dX2_readKinds_1 (by decide) rfl rfl ?_
  refine r_iconst (v := 0) C dX2_readKinds_2 (by decide) ?_
  refine r_istore_n (lv' := [(3, .int (0 : Int32)), (2, .int (0 : Int32)), (0, .ref v0), (1, .int v1)]) C dX2_readKinds_3 (by decide) rfl rfl ?_
  refine r_iconst (v := 0) C dX2_readKinds_4 (by decide) ?_
  refine r_istore (lv' := [(4, .int (0 : Int32)), (3, .int (0 : Int32)), (2, .int (0 : Int32)), (0, .ref v0), (1, .int v1)]) C dX2_readKinds_5 (by decide) rfl rfl ?_
  obtain ⟨y45, hl7, hf0⟩ := ob hf0
  have L7 : ∀ (n : Nat) (t46 : Int32) (t47 : Int32) (t48 : Int32) (h49 : aH), whileL n (fun q : Int32 × Int32 × Int32 × aH => f_X2_readKinds_b7 v0 v1 q.1 q.2.1 q.2.2.1 q.2.2.2) (t46, t47, t48, h49) = some y45 → gW p l e (rmO 2 0 0) s m args below meth c (MQ below (eQ D cA B Hb out.2 (some (.int out.1))) args s 0 0 (fun q => B ≤ q)) D cA B Hb 7 h49 7 [(0, .ref v0), (1, .int v1), (2, .int t46), (3, .int t47), (4, .int t48)] [] 0 0 := by
    intro n
    induction n with
    | zero => intro t46 t47 t48 h49 hz; cases hz
    | succ n ih7 =>
      intro t46 t47 t48 h49 hz
      obtain ⟨x7, hf1, hk7⟩ := wl hz
      replace hf1 : f_X2_readKinds_b7 v0 v1 t46 t47 t48 h49 = some x7 := hf1
      unfold f_X2_readKinds_b7 at hf1
      have J33 : ∀ (h50 : aH) (t51 : Int32) (t52 : Int32) (t53 : Int32), f_X2_readKinds_j33 h50 v0 v1 t51 t52 t53 = some x7 → gW p l e (rmO 2 0 0) s m args below meth c (MQ below (eQ D cA B Hb out.2 (some (.int out.1))) args s 0 0 (fun q => B ≤ q)) D cA B Hb 7 h50 33 [(0, .ref v0), (1, .int v1), (2, .int t51), (3, .int t52), (4, .int t53)] [] 0 0 := by
        intro h50 t51 t52 t53 hf1
        unfold f_X2_readKinds_j33 at hf1
        refine r_aload_n C dX2_readKinds_33 rfl ?_
        obtain ⟨t54, e55, hf1⟩ := ob hf1
        refine r_getR C fk_X2_36 rfl dX2_readKinds_34 e55 ?_
        obtain ⟨t56, e57, hf1⟩ := ob hf1
        refine r_getI C fk_X2_55 rfl dX2_readKinds_37 e57 ?_
        obtain ⟨t58, e59, hf1⟩ := ob hf1
        refine r_cS (rest := []) (st2 := [.int t58]) C (s_X2_isKind e59) mk_X2_isKind sm_X2_isKind lk_X2_177 rfl rfl rfl dX2_readKinds_40 (Nat.le_of_ble_eq_true rfl) ⟨Nat.le_of_ble_eq_true rfl, Nat.le_of_ble_eq_true rfl⟩ ⟨Nat.le_of_ble_eq_true rfl, Nat.le_of_ble_eq_true rfl⟩ ?_
        refine r_ifne (tgt := 55) C dX2_readKinds_43 (by decide) (fun c60 => ?_) (fun c60 => ?_)
        · rw [if_neg c60] at hf1
          refine r_aload_n C dX2_readKinds_55 rfl ?_
          obtain ⟨t61, e62, hf1⟩ := ob hf1
          refine r_getR C fk_X2_36 rfl dX2_readKinds_56 e62 ?_
          obtain ⟨t63, e64, hf1⟩ := ob hf1
          refine r_getI C fk_X2_55 rfl dX2_readKinds_59 e64 ?_
          refine r_bipush (v := 21) C dX2_readKinds_62 (by decide) ?_
          refine r_isub C dX2_readKinds_64 ?_
          obtain ⟨t65, e66, hf1⟩ := ob hf1
          refine r_istore (lv' := [(5, .int t65), (0, .ref v0), (1, .int v1), (2, .int t51), (3, .int t52), (4, .int t53)]) C dX2_readKinds_65 (by decide) e66 rfl ?_
          refine r_iload_n C dX2_readKinds_67 rfl ?_
          refine r_iload C dX2_readKinds_68 rfl ?_
          refine r_ishr C dX2_readKinds_70 ?_
          refine r_iconst (v := 1) C dX2_readKinds_71 (by decide) ?_
          refine r_iand C dX2_readKinds_72 ?_
          refine r_ifeq (tgt := 85) C dX2_readKinds_73 (by decide) (fun c67 => ?_) (fun c67 => ?_)
          · rw [if_pos c67] at hf1
            refine r_iload_n C dX2_readKinds_85 rfl ?_
            refine r_iconst (v := 1) C dX2_readKinds_86 (by decide) ?_
            refine r_iload C dX2_readKinds_87 rfl ?_
            refine r_ishl C dX2_readKinds_89 ?_
            refine r_ior C dX2_readKinds_90 ?_
            obtain ⟨t68, e69, hf1⟩ := ob hf1
            refine r_istore_n (lv' := [(2, .int t68), (5, .int t65), (0, .ref v0), (1, .int v1), (3, .int t52), (4, .int t53)]) C dX2_readKinds_91 (by decide) e69 rfl ?_
            refine r_aload_n C dX2_readKinds_92 rfl ?_
            obtain ⟨t70, e71, hf1⟩ := ob hf1
            refine r_getR C fk_X2_36 rfl dX2_readKinds_93 e71 ?_
            obtain ⟨u73, e72, hf1⟩ := ob hf1
            obtain ⟨h74, e75, hf1⟩ := ob hf1
            refine r_cV (ci := 4) (rest := []) (st2 := []) C (s_X4_advance e75) mk_X4_advance rfl (ck_k e72) (by decide) im_X4_advance sl_X4_advance lk_X2_91 rfl rfl rfl dX2_readKinds_96 (Nat.le_of_ble_eq_true rfl) ⟨Nat.le_of_ble_eq_true rfl, Nat.le_of_ble_eq_true rfl⟩ ⟨Nat.le_of_ble_eq_true rfl, Nat.le_of_ble_eq_true rfl⟩ ?_
            refine r_aload_n C dX2_readKinds_99 rfl ?_
            obtain ⟨t76, e77, hf1⟩ := ob hf1
            refine r_getR C fk_X2_36 rfl dX2_readKinds_100 e77 ?_
            refine r_iconst (v := 1) C dX2_readKinds_103 (by decide) ?_
            refine r_bipush (v := 16) C dX2_readKinds_104 (by decide) ?_
            obtain ⟨u79, e78, hf1⟩ := ob hf1
            obtain ⟨t80, h81, e82, hf1⟩ := ob2 hf1
            refine r_cV (ci := 4) (rest := []) (st2 := [.int t80]) C (s_X4_takeNumber e82) mk_X4_takeNumber rfl (ck_k e78) (by decide) im_X4_takeNumber sl_X4_takeNumber lk_X2_136 rfl rfl rfl dX2_readKinds_106 (Nat.le_of_ble_eq_true rfl) ⟨Nat.le_of_ble_eq_true rfl, Nat.le_of_ble_eq_true rfl⟩ ⟨Nat.le_of_ble_eq_true rfl, Nat.le_of_ble_eq_true rfl⟩ ?_
            refine r_istore (lv' := [(6, .int t80), (2, .int t68), (5, .int t65), (0, .ref v0), (1, .int v1), (3, .int t52), (4, .int t53)]) C dX2_readKinds_109 (by decide) rfl rfl ?_
            refine r_iload C dX2_readKinds_111 rfl ?_
            refine r_iconst (v := -1) C dX2_readKinds_113 (by decide) ?_
            refine r_icmp_ne (tgt := 119) C dX2_readKinds_114 (by decide) (fun c83 => ?_) (fun c83 => ?_)
            · rw [if_neg c83] at hf1
              refine r_aload_n C dX2_readKinds_119 rfl ?_
              obtain ⟨t84, e85, hf1⟩ := ob hf1
              refine r_getR C fk_X2_40 rfl dX2_readKinds_120 e85 ?_
              obtain ⟨t86, e87, hf1⟩ := ob hf1
              refine r_getR C fk_X2_180 rfl dX2_readKinds_123 e87 ?_
              refine r_iload_n C dX2_readKinds_126 rfl ?_
              refine r_iconst (v := 4) C dX2_readKinds_127 (by decide) ?_
              refine r_imul C dX2_readKinds_128 ?_
              refine r_iload C dX2_readKinds_129 rfl ?_
              refine r_iadd C dX2_readKinds_131 ?_
              refine r_iload C dX2_readKinds_132 rfl ?_
              obtain ⟨h88, e89, hf1⟩ := ob hf1
              refine r_stI C dX2_readKinds_134 e89 ?_
              refine r_iload_n C dX2_readKinds_135 rfl ?_
              refine r_iload C dX2_readKinds_136 rfl ?_
              refine r_iadd C dX2_readKinds_138 ?_
              obtain ⟨t90, e91, hf1⟩ := ob hf1
              refine r_istore_n (lv' := [(3, .int t90), (6, .int t80), (2, .int t68), (5, .int t65), (0, .ref v0), (1, .int v1), (4, .int t53)]) C dX2_readKinds_139 (by decide) e91 rfl ?_
              obtain ⟨t92, e93, hf1⟩ := ob hf1
              refine r_iinc (lv' := [(4, .int t92), (3, .int t90), (6, .int t80), (2, .int t68), (5, .int t65), (0, .ref v0), (1, .int v1)]) C dX2_readKinds_140 rfl e93 (by decide) rfl ?_
              refine r_goto (tgt := 7) C dX2_readKinds_143 (by decide) ?_
              obtain rfl := so hf1
              refine r_subk [5, 6, 3, 1, 0] (lv' := [(0, .ref v0), (1, .int v1), (2, .int t68), (3, .int t90), (4, .int t92)]) rfl ?_
              exact ih7 t68 t90 t92 h88 hk7
            · rw [if_pos c83] at hf1
              obtain rfl := so hf1
              obtain rfl := so (show some (.inr (.inr (.inl h81)) : (aH) ⊕ (aH) ⊕ (aH) ⊕ (Int32 × Int32 × aH)) = some y45 from hk7)
              dsimp only at hf0
              refine r_iconst (v := 0) C dX2_readKinds_117 (by decide) ?_
              obtain rfl := so hf0
              exact r_zret C dX2_readKinds_118 (Or.inl rfl)
          · rw [if_neg c67] at hf1
            obtain rfl := so hf1
            obtain rfl := so (show some (.inr (.inl h50) : (aH) ⊕ (aH) ⊕ (aH) ⊕ (Int32 × Int32 × aH)) = some y45 from hk7)
            dsimp only at hf0
            refine r_aload_n C dX2_readKinds_76 rfl ?_
            obtain ⟨t94, e95, hf0⟩ := ob hf0
            refine r_getR C fk_X2_36 rfl dX2_readKinds_77 e95 ?_
            refine r_iconst (v := 5) C dX2_readKinds_80 (by decide) ?_
            obtain ⟨u97, e96, hf0⟩ := ob hf0
            obtain ⟨t98, h99, e100, hf0⟩ := ob2 hf0
            refine r_cV (ci := 4) (rest := []) (st2 := [.int t98]) C (s_X4_refuseHere e100) mk_X4_refuseHere rfl (ck_k e96) (by decide) im_X4_refuseHere sl_X4_refuseHere lk_X2_74 rfl rfl rfl dX2_readKinds_81 (Nat.le_of_ble_eq_true rfl) ⟨Nat.le_of_ble_eq_true rfl, Nat.le_of_ble_eq_true rfl⟩ ⟨Nat.le_of_ble_eq_true rfl, Nat.le_of_ble_eq_true rfl⟩ ?_
            obtain ⟨t101, e102, hf0⟩ := ob hf0
            obtain ⟨rfl, e102z⟩ := rZ_k e102
            obtain rfl := so hf0
            exact r_zret C dX2_readKinds_84 e102z
        · rw [if_pos c60] at hf1
          obtain rfl := so hf1
          obtain rfl := so (show some (.inl h50 : (aH) ⊕ (aH) ⊕ (aH) ⊕ (Int32 × Int32 × aH)) = some y45 from hk7)
          dsimp only at hf0
          refine r_aload_n C dX2_readKinds_46 rfl ?_
          obtain ⟨t103, e104, hf0⟩ := ob hf0
          refine r_getR C fk_X2_36 rfl dX2_readKinds_47 e104 ?_
          refine r_iconst (v := 2) C dX2_readKinds_50 (by decide) ?_
          obtain ⟨u106, e105, hf0⟩ := ob hf0
          obtain ⟨t107, h108, e109, hf0⟩ := ob2 hf0
          refine r_cV (ci := 4) (rest := []) (st2 := [.int t107]) C (s_X4_refuseHere e109) mk_X4_refuseHere rfl (ck_k e105) (by decide) im_X4_refuseHere sl_X4_refuseHere lk_X2_74 rfl rfl rfl dX2_readKinds_51 (Nat.le_of_ble_eq_true rfl) ⟨Nat.le_of_ble_eq_true rfl, Nat.le_of_ble_eq_true rfl⟩ ⟨Nat.le_of_ble_eq_true rfl, Nat.le_of_ble_eq_true rfl⟩ ?_
          obtain ⟨t110, e111, hf0⟩ := ob hf0
          obtain ⟨rfl, e111z⟩ := rZ_k e111
          obtain rfl := so hf0
          exact r_zret C dX2_readKinds_54 e111z
      refine r_iload C dX2_readKinds_7 rfl ?_
      refine r_sipush (v := 901) C dX2_readKinds_9 (by decide) ?_
      refine r_icmp_ge (tgt := 146) C dX2_readKinds_12 (by decide) (fun c112 => ?_) (fun c112 => ?_)
      · rw [if_pos c112] at hf1
        obtain rfl := so hf1
        obtain rfl := so (show some (.inr (.inr (.inr (t46, t47, h49))) : (aH) ⊕ (aH) ⊕ (aH) ⊕ (Int32 × Int32 × aH)) = some y45 from hk7)
        dsimp only at hf0
        refine r_subk [0, 1, 2, 3] (lv' := [(0, .ref v0), (1, .int v1), (2, .int t46), (3, .int t47)]) rfl ?_
        exact J146 h49 v0 v1 t46 t47 hf0
      · rw [if_neg c112] at hf1
        refine r_iload C dX2_readKinds_15 rfl ?_
        refine r_ifeq (tgt := 33) C dX2_readKinds_17 (by decide) (fun c113 => ?_) (fun c113 => ?_)
        · rw [if_pos c113] at hf1
          exact J33 h49 t46 t47 t48 hf1
        · rw [if_neg c113] at hf1
          refine r_aload_n C dX2_readKinds_20 rfl ?_
          obtain ⟨t114, e115, hf1⟩ := ob hf1
          refine r_getR C fk_X2_36 rfl dX2_readKinds_21 e115 ?_
          obtain ⟨t116, e117, hf1⟩ := ob hf1
          refine r_getI C fk_X2_55 rfl dX2_readKinds_24 e117 ?_
          obtain ⟨t118, e119, hf1⟩ := ob hf1
          refine r_cS (rest := []) (st2 := [.int t118]) C (s_X2_isKind e119) mk_X2_isKind sm_X2_isKind lk_X2_177 rfl rfl rfl dX2_readKinds_27 (Nat.le_of_ble_eq_true rfl) ⟨Nat.le_of_ble_eq_true rfl, Nat.le_of_ble_eq_true rfl⟩ ⟨Nat.le_of_ble_eq_true rfl, Nat.le_of_ble_eq_true rfl⟩ ?_
          refine r_ifeq (tgt := 146) C dX2_readKinds_30 (by decide) (fun c120 => ?_) (fun c120 => ?_)
          · rw [if_pos c120] at hf1
            obtain rfl := so hf1
            obtain rfl := so (show some (.inr (.inr (.inr (t46, t47, h49))) : (aH) ⊕ (aH) ⊕ (aH) ⊕ (Int32 × Int32 × aH)) = some y45 from hk7)
            dsimp only at hf0
            refine r_subk [0, 1, 2, 3] (lv' := [(0, .ref v0), (1, .int v1), (2, .int t46), (3, .int t47)]) rfl ?_
            exact J146 h49 v0 v1 t46 t47 hf0
          · rw [if_neg c120] at hf1
            exact J33 h49 t46 t47 t48 hf1
  refine r_subk [3, 4, 2, 1, 0] (lv' := [(0, .ref v0), (1, .int v1), (2, .int (0 : Int32)), (3, .int (0 : Int32)), (4, .int (0 : Int32))]) rfl ?_
  exact L7 wN (0 : Int32) (0 : Int32) (0 : Int32) h hl7
def f_X2_readWitness_j142 (h : aH) (v0 : Nat) : Option (Int32 × aH) := (gR h 2 v0 6).bind fun t1 => (gI h 1 t1 17).bind fun t2 => (pI h 1 t1 17 (t2 + (1 : Int32))).bind fun h3 => (gR h3 2 v0 0).bind fun t4 => (gI h3 4 t4 12).bind fun t5 => if t5 = 0 then (gR h3 2 v0 0).bind fun t6 => (ck h3 4 t6).bind fun _ => bd2 (f_X4_take h3 t6 (3 : Int32)) fun t7 h8 => if t7 = 0 then some ((0 : Int32), h8) else some ((1 : Int32), h8) else some ((0 : Int32), h3)
def f_X2_readWitness_j76 (h : aH) (v0 : Nat) (v1 : Int32) : Option (Int32 × aH) := (gR h 2 v0 0).bind fun t9 => (gI h 4 t9 12).bind fun t10 => if t10 = 0 then (gR h 2 v0 0).bind fun t11 => (ck h 4 t11).bind fun _ => bd2 (f_X4_take h t11 (16 : Int32)) fun t12 h13 => if t12 = 0 then some ((0 : Int32), h13) else (ck h13 2 v0).bind fun _ => bd2 (f_X2_readKinds h13 v0 v1) fun t14 h15 => if t14 = 0 then some ((0 : Int32), h15) else (gR h15 2 v0 0).bind fun t16 => (gI h15 4 t16 10).bind fun t17 => if t17 = (17 : Int32) then (gR h15 2 v0 0).bind fun t18 => (ck h15 4 t18).bind fun _ => (f_X4_advance h15 t18).bind fun h19 => (gR h19 2 v0 6).bind fun t20 => (gR h19 1 t20 10).bind fun t21 => (ck h19 2 v0).bind fun _ => bd2 (f_X2_takeNames h19 v0 (2 : Int32) (3 : Int32)) fun t22 h23 => (sI h23 t21 v1 t22).bind fun h24 => f_X2_readWitness_j142 h24 v0 else f_X2_readWitness_j142 h15 v0 else some ((0 : Int32), h)
def f_X2_readWitness (h : aH) (v0 : Nat) : Option (Int32 × aH) := (gR h 2 v0 6).bind fun t25 => (gI h 1 t25 17).bind fun t26 => if t26 < (4 : Int32) then (gR h 2 v0 0).bind fun t27 => (ck h 4 t27).bind fun _ => (f_X4_advance h t27).bind fun h28 => (ck h28 2 v0).bind fun _ => bd2 (f_X2_takeNewName h28 v0 (3 : Int32) t26) fun t29 h30 => if t29 = 0 then some ((0 : Int32), h30) else (gR h30 2 v0 0).bind fun t31 => (gI h30 4 t31 10).bind fun t32 => if t32 = (15 : Int32) then (gR h30 2 v0 0).bind fun t33 => (ck h30 4 t33).bind fun _ => (f_X4_advance h30 t33).bind fun h34 => (gR h34 2 v0 6).bind fun t35 => (gR h34 1 t35 9).bind fun t36 => (ck h34 2 v0).bind fun _ => bd2 (f_X2_takeNames h34 v0 (0 : Int32) (16 : Int32)) fun t37 h38 => (sI h38 t36 t26 t37).bind fun h39 => f_X2_readWitness_j76 h39 v0 t26 else f_X2_readWitness_j76 h30 v0 t26 else (gR h 2 v0 0).bind fun t40 => (ck h 4 t40).bind fun _ => bd2 (f_X4_refuseHere h t40 (6 : Int32)) fun t41 h42 => (rZ t41).bind fun t43 => some (t43, h42)
theorem s_X2_readWitness {h : aH} {v0 : Nat} {out : Int32 × aH} (hf0 : f_X2_readWitness h v0 = some out) : EV 3 yX2_readWitness cX2_readWitness 2 (some .boolean) h [.ref v0] (some (.int out.1)) out.2 0 0 := by
  refine EV.of (own := RX2) (lv0 := [(0, .ref v0)]) (by decide +kernel) rfl rfl (Nat.le_of_ble_eq_true rfl) ?_
  intro p l e s m args below meth c D cA B Hb C hin
  unfold f_X2_readWitness at hf0
  have J142 : ∀ (h1 : aH) (t2 : Nat), f_X2_readWitness_j142 h1 t2 = some out → gW p l e (rmO 3 0 0) s m args below meth c (MQ below (eQ D cA B Hb out.2 (some (.int out.1))) args s 0 0 (fun q => B ≤ q)) D cA B Hb 2 h1 142 [(0, .ref t2)] [] 0 0 := by
    intro h1 t2 hf0
    unfold f_X2_readWitness_j142 at hf0
    refine r_aload_n C dX2_readWitness_142 rfl ?_
    obtain ⟨t3, e4, hf0⟩ := ob hf0
    refine r_getR C fk_X2_40 rfl dX2_readWitness_143 e4 ?_
    refine r_dup C dX2_readWitness_146 rfl ?_
    obtain ⟨t5, e6, hf0⟩ := ob hf0
    refine r_getI C fk_X2_162 rfl dX2_readWitness_147 e6 ?_
    refine r_iconst (v := 1) C dX2_readWitness_150 (by decide) ?_
    refine r_iadd C dX2_readWitness_151 ?_
    obtain ⟨h7, e8, hf0⟩ := ob hf0
    refine r_putI C fk_X2_162 dX2_readWitness_152 e8 ?_
    refine r_aload_n C dX2_readWitness_155 rfl ?_
    obtain ⟨t9, e10, hf0⟩ := ob hf0
    refine r_getR C fk_X2_36 rfl dX2_readWitness_156 e10 ?_
    obtain ⟨t11, e12, hf0⟩ := ob hf0
    refine r_getI C fk_X2_140 rfl dX2_readWitness_159 e12 ?_
    refine r_ifne (tgt := 180) C dX2_readWitness_162 (by decide) (fun c13 => ?_) (fun c13 => ?_)
    · rw [if_neg c13] at hf0
      refine r_iconst (v := 0) C dX2_readWitness_180 (by decide) ?_
      obtain rfl := so hf0
      exact r_zret C dX2_readWitness_181 (Or.inl rfl)
    · rw [if_pos c13] at hf0
      refine r_aload_n C dX2_readWitness_165 rfl ?_
      obtain ⟨t14, e15, hf0⟩ := ob hf0
      refine r_getR C fk_X2_36 rfl dX2_readWitness_166 e15 ?_
      refine r_iconst (v := 3) C dX2_readWitness_169 (by decide) ?_
      obtain ⟨u17, e16, hf0⟩ := ob hf0
      obtain ⟨t18, h19, e20, hf0⟩ := ob2 hf0
      refine r_cV (ci := 4) (rest := []) (st2 := [.int t18]) C (s_X4_take e20) mk_X4_take rfl (ck_k e16) (by decide) im_X4_take sl_X4_take lk_X2_98 rfl rfl rfl dX2_readWitness_170 (Nat.le_of_ble_eq_true rfl) ⟨Nat.le_of_ble_eq_true rfl, Nat.le_of_ble_eq_true rfl⟩ ⟨Nat.le_of_ble_eq_true rfl, Nat.le_of_ble_eq_true rfl⟩ ?_
      refine r_ifeq (tgt := 180) C dX2_readWitness_173 (by decide) (fun c21 => ?_) (fun c21 => ?_)
      · rw [if_pos c21] at hf0
        refine r_iconst (v := 0) C dX2_readWitness_180 (by decide) ?_
        obtain rfl := so hf0
        exact r_zret C dX2_readWitness_181 (Or.inl rfl)
      · rw [if_neg c21] at hf0
        refine r_iconst (v := 1) C dX2_readWitness_176 (by decide) ?_
        refine r_goto (tgt := 181) C dX2_readWitness_177 (by decide) ?_
        obtain rfl := so hf0
        exact r_zret C dX2_readWitness_181 (Or.inr rfl)
  have J76 : ∀ (h22 : aH) (t23 : Nat) (t24 : Int32), f_X2_readWitness_j76 h22 t23 t24 = some out → gW p l e (rmO 3 0 0) s m args below meth c (MQ below (eQ D cA B Hb out.2 (some (.int out.1))) args s 0 0 (fun q => B ≤ q)) D cA B Hb 2 h22 76 [(0, .ref t23), (1, .int t24)] [] 0 0 := by
    intro h22 t23 t24 hf0
    unfold f_X2_readWitness_j76 at hf0
    refine r_aload_n C dX2_readWitness_76 rfl ?_
    obtain ⟨t25, e26, hf0⟩ := ob hf0
    refine r_getR C fk_X2_36 rfl dX2_readWitness_77 e26 ?_
    obtain ⟨t27, e28, hf0⟩ := ob hf0
    refine r_getI C fk_X2_140 rfl dX2_readWitness_80 e28 ?_
    refine r_ifne (tgt := 106) C dX2_readWitness_83 (by decide) (fun c29 => ?_) (fun c29 => ?_)
    · rw [if_neg c29] at hf0
      refine r_iconst (v := 0) C dX2_readWitness_106 (by decide) ?_
      obtain rfl := so hf0
      exact r_zret C dX2_readWitness_107 (Or.inl rfl)
    · rw [if_pos c29] at hf0
      refine r_aload_n C dX2_readWitness_86 rfl ?_
      obtain ⟨t30, e31, hf0⟩ := ob hf0
      refine r_getR C fk_X2_36 rfl dX2_readWitness_87 e31 ?_
      refine r_bipush (v := 16) C dX2_readWitness_90 (by decide) ?_
      obtain ⟨u33, e32, hf0⟩ := ob hf0
      obtain ⟨t34, h35, e36, hf0⟩ := ob2 hf0
      refine r_cV (ci := 4) (rest := []) (st2 := [.int t34]) C (s_X4_take e36) mk_X4_take rfl (ck_k e32) (by decide) im_X4_take sl_X4_take lk_X2_98 rfl rfl rfl dX2_readWitness_92 (Nat.le_of_ble_eq_true rfl) ⟨Nat.le_of_ble_eq_true rfl, Nat.le_of_ble_eq_true rfl⟩ ⟨Nat.le_of_ble_eq_true rfl, Nat.le_of_ble_eq_true rfl⟩ ?_
      refine r_ifeq (tgt := 106) C dX2_readWitness_95 (by decide) (fun c37 => ?_) (fun c37 => ?_)
      · rw [if_pos c37] at hf0
        refine r_iconst (v := 0) C dX2_readWitness_106 (by decide) ?_
        obtain rfl := so hf0
        exact r_zret C dX2_readWitness_107 (Or.inl rfl)
      · rw [if_neg c37] at hf0
        refine r_aload_n C dX2_readWitness_98 rfl ?_
        refine r_iload_n C dX2_readWitness_99 rfl ?_
        obtain ⟨u39, e38, hf0⟩ := ob hf0
        obtain ⟨t40, h41, e42, hf0⟩ := ob2 hf0
        refine r_cV (ci := 2) (rest := []) (st2 := [.int t40]) C (s_X2_readKinds e42) mk_X2_readKinds rfl (ck_k e38) (by decide) im_X2_readKinds sl_X2_readKinds lk_X2_171 rfl rfl rfl dX2_readWitness_100 (Nat.le_of_ble_eq_true rfl) ⟨Nat.le_of_ble_eq_true rfl, Nat.le_of_ble_eq_true rfl⟩ ⟨Nat.le_of_ble_eq_true rfl, Nat.le_of_ble_eq_true rfl⟩ ?_
        refine r_ifne (tgt := 108) C dX2_readWitness_103 (by decide) (fun c43 => ?_) (fun c43 => ?_)
        · rw [if_neg c43] at hf0
          refine r_aload_n C dX2_readWitness_108 rfl ?_
          obtain ⟨t44, e45, hf0⟩ := ob hf0
          refine r_getR C fk_X2_36 rfl dX2_readWitness_109 e45 ?_
          obtain ⟨t46, e47, hf0⟩ := ob hf0
          refine r_getI C fk_X2_55 rfl dX2_readWitness_112 e47 ?_
          refine r_bipush (v := 17) C dX2_readWitness_115 (by decide) ?_
          refine r_icmp_ne (tgt := 142) C dX2_readWitness_117 (by decide) (fun c48 => ?_) (fun c48 => ?_)
          · rw [if_neg c48] at hf0
            refine r_subk [0] (lv' := [(0, .ref t23)]) rfl ?_
            exact J142 h41 t23 hf0
          · rw [if_pos c48] at hf0
            refine r_aload_n C dX2_readWitness_120 rfl ?_
            obtain ⟨t49, e50, hf0⟩ := ob hf0
            refine r_getR C fk_X2_36 rfl dX2_readWitness_121 e50 ?_
            obtain ⟨u52, e51, hf0⟩ := ob hf0
            obtain ⟨h53, e54, hf0⟩ := ob hf0
            refine r_cV (ci := 4) (rest := []) (st2 := []) C (s_X4_advance e54) mk_X4_advance rfl (ck_k e51) (by decide) im_X4_advance sl_X4_advance lk_X2_91 rfl rfl rfl dX2_readWitness_124 (Nat.le_of_ble_eq_true rfl) ⟨Nat.le_of_ble_eq_true rfl, Nat.le_of_ble_eq_true rfl⟩ ⟨Nat.le_of_ble_eq_true rfl, Nat.le_of_ble_eq_true rfl⟩ ?_
            refine r_aload_n C dX2_readWitness_127 rfl ?_
            obtain ⟨t55, e56, hf0⟩ := ob hf0
            refine r_getR C fk_X2_40 rfl dX2_readWitness_128 e56 ?_
            obtain ⟨t57, e58, hf0⟩ := ob hf0
            refine r_getR C fk_X2_174 rfl dX2_readWitness_131 e58 ?_
            refine r_iload_n C dX2_readWitness_134 rfl ?_
            refine r_aload_n C dX2_readWitness_135 rfl ?_
            refine r_iconst (v := 2) C dX2_readWitness_136 (by decide) ?_
            refine r_iconst (v := 3) C dX2_readWitness_137 (by decide) ?_
            obtain ⟨u60, e59, hf0⟩ := ob hf0
            obtain ⟨t61, h62, e63, hf0⟩ := ob2 hf0
            refine r_cV (ci := 2) (rest := [.int t24, .ref t57]) (st2 := [.int t61, .int t24, .ref t57]) C (s_X2_takeNames e63) mk_X2_takeNames rfl (ck_k e59) (by decide) im_X2_takeNames sl_X2_takeNames lk_X2_168 rfl rfl rfl dX2_readWitness_138 (Nat.le_of_ble_eq_true rfl) ⟨Nat.le_of_ble_eq_true rfl, Nat.le_of_ble_eq_true rfl⟩ ⟨Nat.le_of_ble_eq_true rfl, Nat.le_of_ble_eq_true rfl⟩ ?_
            obtain ⟨h64, e65, hf0⟩ := ob hf0
            refine r_stI C dX2_readWitness_141 e65 ?_
            refine r_subk [0] (lv' := [(0, .ref t23)]) rfl ?_
            exact J142 h64 t23 hf0
        · rw [if_pos c43] at hf0
          refine r_iconst (v := 0) C dX2_readWitness_106 (by decide) ?_
          obtain rfl := so hf0
          exact r_zret C dX2_readWitness_107 (Or.inl rfl)
  refine r_aload_n C dX2_readWitness_0 rfl ?_
  obtain ⟨t66, e67, hf0⟩ := ob hf0
  refine r_getR C fk_X2_40 rfl dX2_readWitness_1 e67 ?_
  obtain ⟨t68, e69, hf0⟩ := ob hf0
  refine r_getI C fk_X2_162 rfl dX2_readWitness_4 e69 ?_
  refine r_istore_n (lv' := [(1, .int t68), (0, .ref v0)]) C dX2_readWitness_7 (by decide) rfl rfl ?_
  refine r_iload_n C dX2_readWitness_8 rfl ?_
  refine r_iconst (v := 4) C dX2_readWitness_9 (by decide) ?_
  refine r_icmp_lt (tgt := 23) C dX2_readWitness_10 (by decide) (fun c70 => ?_) (fun c70 => ?_)
  · rw [if_pos c70] at hf0
    refine r_aload_n C dX2_readWitness_23 rfl ?_
    obtain ⟨t71, e72, hf0⟩ := ob hf0
    refine r_getR C fk_X2_36 rfl dX2_readWitness_24 e72 ?_
    obtain ⟨u74, e73, hf0⟩ := ob hf0
    obtain ⟨h75, e76, hf0⟩ := ob hf0
    refine r_cV (ci := 4) (rest := []) (st2 := []) C (s_X4_advance e76) mk_X4_advance rfl (ck_k e73) (by decide) im_X4_advance sl_X4_advance lk_X2_91 rfl rfl rfl dX2_readWitness_27 (Nat.le_of_ble_eq_true rfl) ⟨Nat.le_of_ble_eq_true rfl, Nat.le_of_ble_eq_true rfl⟩ ⟨Nat.le_of_ble_eq_true rfl, Nat.le_of_ble_eq_true rfl⟩ ?_
    refine r_aload_n C dX2_readWitness_30 rfl ?_
    refine r_iconst (v := 3) C dX2_readWitness_31 (by decide) ?_
    refine r_iload_n C dX2_readWitness_32 rfl ?_
    obtain ⟨u78, e77, hf0⟩ := ob hf0
    obtain ⟨t79, h80, e81, hf0⟩ := ob2 hf0
    refine r_cV (ci := 2) (rest := []) (st2 := [.int t79]) C (s_X2_takeNewName e81) mk_X2_takeNewName rfl (ck_k e77) (by decide) im_X2_takeNewName sl_X2_takeNewName lk_X2_94 rfl rfl rfl dX2_readWitness_33 (Nat.le_of_ble_eq_true rfl) ⟨Nat.le_of_ble_eq_true rfl, Nat.le_of_ble_eq_true rfl⟩ ⟨Nat.le_of_ble_eq_true rfl, Nat.le_of_ble_eq_true rfl⟩ ?_
    refine r_ifne (tgt := 41) C dX2_readWitness_36 (by decide) (fun c82 => ?_) (fun c82 => ?_)
    · rw [if_neg c82] at hf0
      refine r_aload_n C dX2_readWitness_41 rfl ?_
      obtain ⟨t83, e84, hf0⟩ := ob hf0
      refine r_getR C fk_X2_36 rfl dX2_readWitness_42 e84 ?_
      obtain ⟨t85, e86, hf0⟩ := ob hf0
      refine r_getI C fk_X2_55 rfl dX2_readWitness_45 e86 ?_
      refine r_bipush (v := 15) C dX2_readWitness_48 (by decide) ?_
      refine r_icmp_ne (tgt := 76) C dX2_readWitness_50 (by decide) (fun c87 => ?_) (fun c87 => ?_)
      · rw [if_neg c87] at hf0
        refine r_subk [1, 0] (lv' := [(0, .ref v0), (1, .int t68)]) rfl ?_
        exact J76 h80 v0 t68 hf0
      · rw [if_pos c87] at hf0
        refine r_aload_n C dX2_readWitness_53 rfl ?_
        obtain ⟨t88, e89, hf0⟩ := ob hf0
        refine r_getR C fk_X2_36 rfl dX2_readWitness_54 e89 ?_
        obtain ⟨u91, e90, hf0⟩ := ob hf0
        obtain ⟨h92, e93, hf0⟩ := ob hf0
        refine r_cV (ci := 4) (rest := []) (st2 := []) C (s_X4_advance e93) mk_X4_advance rfl (ck_k e90) (by decide) im_X4_advance sl_X4_advance lk_X2_91 rfl rfl rfl dX2_readWitness_57 (Nat.le_of_ble_eq_true rfl) ⟨Nat.le_of_ble_eq_true rfl, Nat.le_of_ble_eq_true rfl⟩ ⟨Nat.le_of_ble_eq_true rfl, Nat.le_of_ble_eq_true rfl⟩ ?_
        refine r_aload_n C dX2_readWitness_60 rfl ?_
        obtain ⟨t94, e95, hf0⟩ := ob hf0
        refine r_getR C fk_X2_40 rfl dX2_readWitness_61 e95 ?_
        obtain ⟨t96, e97, hf0⟩ := ob hf0
        refine r_getR C fk_X2_165 rfl dX2_readWitness_64 e97 ?_
        refine r_iload_n C dX2_readWitness_67 rfl ?_
        refine r_aload_n C dX2_readWitness_68 rfl ?_
        refine r_iconst (v := 0) C dX2_readWitness_69 (by decide) ?_
        refine r_bipush (v := 16) C dX2_readWitness_70 (by decide) ?_
        obtain ⟨u99, e98, hf0⟩ := ob hf0
        obtain ⟨t100, h101, e102, hf0⟩ := ob2 hf0
        refine r_cV (ci := 2) (rest := [.int t68, .ref t96]) (st2 := [.int t100, .int t68, .ref t96]) C (s_X2_takeNames e102) mk_X2_takeNames rfl (ck_k e98) (by decide) im_X2_takeNames sl_X2_takeNames lk_X2_168 rfl rfl rfl dX2_readWitness_72 (Nat.le_of_ble_eq_true rfl) ⟨Nat.le_of_ble_eq_true rfl, Nat.le_of_ble_eq_true rfl⟩ ⟨Nat.le_of_ble_eq_true rfl, Nat.le_of_ble_eq_true rfl⟩ ?_
        obtain ⟨h103, e104, hf0⟩ := ob hf0
        refine r_stI C dX2_readWitness_75 e104 ?_
        refine r_subk [1, 0] (lv' := [(0, .ref v0), (1, .int t68)]) rfl ?_
        exact J76 h103 v0 t68 hf0
    · rw [if_pos c82] at hf0
      refine r_iconst (v := 0) C dX2_readWitness_39 (by decide) ?_
      obtain rfl := so hf0
      exact r_zret C dX2_readWitness_40 (Or.inl rfl)
  · rw [if_neg c70] at hf0
    refine r_aload_n C dX2_readWitness_13 rfl ?_
    obtain ⟨t105, e106, hf0⟩ := ob hf0
    refine r_getR C fk_X2_36 rfl dX2_readWitness_14 e106 ?_
    refine r_bipush (v := 6) C dX2_readWitness_17 (by decide) ?_
    obtain ⟨u108, e107, hf0⟩ := ob hf0
    obtain ⟨t109, h110, e111, hf0⟩ := ob2 hf0
    refine r_cV (ci := 4) (rest := []) (st2 := [.int t109]) C (s_X4_refuseHere e111) mk_X4_refuseHere rfl (ck_k e107) (by decide) im_X4_refuseHere sl_X4_refuseHere lk_X2_74 rfl rfl rfl dX2_readWitness_19 (Nat.le_of_ble_eq_true rfl) ⟨Nat.le_of_ble_eq_true rfl, Nat.le_of_ble_eq_true rfl⟩ ⟨Nat.le_of_ble_eq_true rfl, Nat.le_of_ble_eq_true rfl⟩ ?_
    obtain ⟨t112, e113, hf0⟩ := ob hf0
    obtain ⟨rfl, e113z⟩ := rZ_k e113
    obtain rfl := so hf0
    exact r_zret C dX2_readWitness_22 e113z
def f_X2_readCase_j147 (h : aH) (v0 : Nat) (v2 : Int32) : Option (Int32 × aH) := if v2 = 0 then (rZ v2).bind fun t1 => some (t1, h) else (ck h 2 v0).bind fun _ => (f_X2_makeWorldsOnce h v0).bind fun h2 => (gR h2 2 v0 1).bind fun t3 => (gR h2 2 v0 6).bind fun t4 => (ck h2 0 t3).bind fun _ => (f_X0_fillAnswers h2 t3 t4).bind fun h5 => (rZ v2).bind fun t6 => some (t6, h5)
def f_X2_readCase_j141 (h : aH) (v0 : Nat) (v2 : Int32) (v3 : Int32) : Option ((Int32 × Int32 × aH) ⊕ (Int32 × aH)) := (some (v3 + (1 : Int32))).bind fun t13 => some (.inl (v2, t13, h))
def f_X2_readCase_b29 (v0 : Nat) (v2 : Int32) (v3 : Int32) (h : aH) : Option ((Int32 × Int32 × aH) ⊕ (Int32 × aH)) := if (901 : Int32) ≤ v3 then some (.inr (v2, h)) else if v2 = 0 then some (.inr (v2, h)) else (gR h 2 v0 0).bind fun t14 => (gI h 4 t14 10).bind fun t15 => if t15 = 0 then some (.inr (v2, h)) else (gR h 2 v0 0).bind fun t16 => (gI h 4 t16 10).bind fun t17 => if t17 = (8 : Int32) then (ck h 2 v0).bind fun _ => bd2 (f_X2_readFact h v0) fun t27 h28 => f_X2_readCase_j141 h28 v0 t27 v3 else if t17 = (10 : Int32) then (ck h 2 v0).bind fun _ => bd2 (f_X2_readNever h v0) fun t25 h26 => f_X2_readCase_j141 h26 v0 t25 v3 else if t17 = (11 : Int32) then (ck h 2 v0).bind fun _ => bd2 (f_X2_readQuestion h v0) fun t23 h24 => f_X2_readCase_j141 h24 v0 t23 v3 else if t17 = (14 : Int32) then (ck h 2 v0).bind fun _ => bd2 (f_X2_readWitness h v0) fun t21 h22 => f_X2_readCase_j141 h22 v0 t21 v3 else (gR h 2 v0 0).bind fun t18 => (ck h 4 t18).bind fun _ => bd2 (f_X4_refuseHere h t18 (2 : Int32)) fun t19 h20 => f_X2_readCase_j141 h20 v0 t19 v3
def f_X2_readCase_l29 (v0 : Nat) (v2 : Int32) (v3 : Int32) (h : aH) : Option (Int32 × aH) := whileL wN (fun q : Int32 × Int32 × aH => f_X2_readCase_b29 v0 q.1 q.2.1 q.2.2) (v2, v3, h)
def f_X2_readCase (h : aH) (v0 : Nat) (v1 : Nat) : Option (Int32 × aH) := (pR h 2 v0 6 v1).bind fun h7 => (gR h7 2 v0 6).bind fun t8 => (ck h7 1 t8).bind fun _ => (f_X1_clear h7 t8).bind fun h9 => (pZ h9 2 v0 7 (0 : Int32)).bind fun h10 => (gR h10 2 v0 2).bind fun t11 => (f_J7_fill_53178 h10 t11 (0 : Int32)).bind fun h12 => bd2 (f_X2_readCase_l29 v0 (1 : Int32) (0 : Int32) h12) fun t29 h30 => f_X2_readCase_j147 h30 v0 t29
theorem s_X2_readCase {h : aH} {v0 : Nat} {v1 : Nat} {out : Int32 × aH} (hf0 : f_X2_readCase h v0 v1 = some out) : EV 29 yX2_readCase cX2_readCase 4 (some .boolean) h [.ref v0, .ref v1] (some (.int out.1)) out.2 0 0 := by
  refine EV.of (own := RX2) (lv0 := [(0, .ref v0), (1, .ref v1)]) (by decide +kernel) rfl rfl (Nat.le_of_ble_eq_true rfl) ?_
  intro p l e s m args below meth c D cA B Hb C hin
  unfold f_X2_readCase at hf0
  have J147 : ∀ (h1 : aH) (t2 : Nat) (t3 : Int32), f_X2_readCase_j147 h1 t2 t3 = some out → gW p l e (rmO 29 0 0) s m args below meth c (MQ below (eQ D cA B Hb out.2 (some (.int out.1))) args s 0 0 (fun q => B ≤ q)) D cA B Hb 4 h1 147 [(0, .ref t2), (2, .int t3)] [] 0 0 := by
    intro h1 t2 t3 hf0
    unfold f_X2_readCase_j147 at hf0
    refine r_iload_n C dX2_readCase_147 rfl ?_
    refine r_ifeq (tgt := 166) C dX2_readCase_148 (by decide) (fun c4 => ?_) (fun c4 => ?_)
    · rw [if_pos c4] at hf0
      refine r_iload_n C dX2_readCase_166 rfl ?_
      obtain ⟨t5, e6, hf0⟩ := ob hf0
      obtain ⟨rfl, e6z⟩ := rZ_k e6
      obtain rfl := so hf0
      exact r_zret C dX2_readCase_167 e6z
    · rw [if_neg c4] at hf0
      refine r_aload_n C dX2_readCase_151 rfl ?_
      obtain ⟨u8, e7, hf0⟩ := ob hf0
      obtain ⟨h9, e10, hf0⟩ := ob hf0
      refine r_cV (ci := 2) (rest := []) (st2 := []) C (s_X2_makeWorldsOnce e10) mk_X2_makeWorldsOnce rfl (ck_k e7) (by decide) im_X2_makeWorldsOnce sl_X2_makeWorldsOnce lk_X2_78 rfl rfl rfl dX2_readCase_152 (Nat.le_of_ble_eq_true rfl) ⟨Nat.le_of_ble_eq_true rfl, Nat.le_of_ble_eq_true rfl⟩ ⟨Nat.le_of_ble_eq_true rfl, Nat.le_of_ble_eq_true rfl⟩ ?_
      refine r_aload_n C dX2_readCase_155 rfl ?_
      obtain ⟨t11, e12, hf0⟩ := ob hf0
      refine r_getR C fk_X2_12 rfl dX2_readCase_156 e12 ?_
      refine r_aload_n C dX2_readCase_159 rfl ?_
      obtain ⟨t13, e14, hf0⟩ := ob hf0
      refine r_getR C fk_X2_40 rfl dX2_readCase_160 e14 ?_
      obtain ⟨u16, e15, hf0⟩ := ob hf0
      obtain ⟨h17, e18, hf0⟩ := ob hf0
      refine r_cV (ci := 0) (rest := []) (st2 := []) C (s_X0_fillAnswers e18) mk_X0_fillAnswers rfl (ck_k e15) (by decide) im_X0_fillAnswers sl_X0_fillAnswers lk_X2_81 rfl rfl rfl dX2_readCase_163 (Nat.le_of_ble_eq_true rfl) ⟨Nat.le_of_ble_eq_true rfl, Nat.le_of_ble_eq_true rfl⟩ ⟨Nat.le_of_ble_eq_true rfl, Nat.le_of_ble_eq_true rfl⟩ ?_
      refine r_iload_n C dX2_readCase_166 rfl ?_
      obtain ⟨t19, e20, hf0⟩ := ob hf0
      obtain ⟨rfl, e20z⟩ := rZ_k e20
      obtain rfl := so hf0
      exact r_zret C dX2_readCase_167 e20z
  refine r_aload_n C dX2_readCase_0 rfl ?_
  refine r_aload_n C dX2_readCase_1 rfl ?_
  obtain ⟨h21, e22, hf0⟩ := ob hf0
  refine r_putR C fk_X2_40 (Or.inl ⟨_, rfl⟩) dX2_readCase_2 e22 ?_
  refine r_aload_n C dX2_readCase_5 rfl ?_
  obtain ⟨t23, e24, hf0⟩ := ob hf0
  refine r_getR C fk_X2_40 rfl dX2_readCase_6 e24 ?_
  obtain ⟨u26, e25, hf0⟩ := ob hf0
  obtain ⟨h27, e28, hf0⟩ := ob hf0
  refine r_cV (ci := 1) (rest := []) (st2 := []) C (s_X1_clear e28) mk_X1_clear rfl (ck_k e25) (by decide) im_X1_clear sl_X1_clear lk_X2_44 rfl rfl rfl dX2_readCase_9 (Nat.le_of_ble_eq_true rfl) ⟨Nat.le_of_ble_eq_true rfl, Nat.le_of_ble_eq_true rfl⟩ ⟨Nat.le_of_ble_eq_true rfl, Nat.le_of_ble_eq_true rfl⟩ ?_
  refine r_aload_n C dX2_readCase_12 rfl ?_
  refine r_iconst (v := 0) C dX2_readCase_13 (by decide) ?_
  obtain ⟨h29, e30, hf0⟩ := ob hf0
  refine r_putZ C fk_X2_32 dX2_readCase_14 e30 ?_
  refine r_aload_n C dX2_readCase_17 rfl ?_
  obtain ⟨t31, e32, hf0⟩ := ob hf0
  refine r_getR C fk_X2_18 rfl dX2_readCase_18 e32 ?_
  refine r_iconst (v := 0) C dX2_readCase_21 (by decide) ?_
  obtain ⟨h33, e34, hf0⟩ := ob hf0
  refine r_cS (rest := []) (st2 := []) C (s_J7_fill_53178 e34) mk_J7_fill_53178 sm_J7_fill_53178 lk_X2_49 rfl rfl rfl dX2_readCase_22 (Nat.le_of_ble_eq_true rfl) ⟨Nat.le_of_ble_eq_true rfl, Nat.le_of_ble_eq_true rfl⟩ ⟨Nat.le_of_ble_eq_true rfl, Nat.le_of_ble_eq_true rfl⟩ ?_
  refine r_iconst (v := 1) C dX2_readCase_25 (by decide) ?_
  refine r_istore_n (lv' := [(2, .int (1 : Int32)), (0, .ref v0), (1, .ref v1)]) C dX2_readCase_26 (by decide) rfl rfl ?_
  refine r_iconst (v := 0) C dX2_readCase_27 (by decide) ?_
  refine r_istore_n (lv' := [(3, .int (0 : Int32)), (2, .int (1 : Int32)), (0, .ref v0), (1, .ref v1)]) C dX2_readCase_28 (by decide) rfl rfl ?_
  obtain ⟨y35, y36, hl29, hf0⟩ := ob2 hf0
  have L29 : ∀ (n : Nat) (t37 : Int32) (t38 : Int32) (h39 : aH), whileL n (fun q : Int32 × Int32 × aH => f_X2_readCase_b29 v0 q.1 q.2.1 q.2.2) (t37, t38, h39) = some (y35, y36) → gW p l e (rmO 29 0 0) s m args below meth c (MQ below (eQ D cA B Hb out.2 (some (.int out.1))) args s 0 0 (fun q => B ≤ q)) D cA B Hb 4 h39 29 [(0, .ref v0), (2, .int t37), (3, .int t38)] [] 0 0 := by
    intro n
    induction n with
    | zero => intro t37 t38 h39 hz; cases hz
    | succ n ih29 =>
      intro t37 t38 h39 hz
      obtain ⟨x29, hf1, hk29⟩ := wl hz
      replace hf1 : f_X2_readCase_b29 v0 t37 t38 h39 = some x29 := hf1
      unfold f_X2_readCase_b29 at hf1
      have J141 : ∀ (h40 : aH) (t41 : Int32) (t42 : Int32), f_X2_readCase_j141 h40 v0 t41 t42 = some x29 → gW p l e (rmO 29 0 0) s m args below meth c (MQ below (eQ D cA B Hb out.2 (some (.int out.1))) args s 0 0 (fun q => B ≤ q)) D cA B Hb 4 h40 141 [(0, .ref v0), (2, .int t41), (3, .int t42)] [] 0 0 := by
        intro h40 t41 t42 hf1
        unfold f_X2_readCase_j141 at hf1
        obtain ⟨t43, e44, hf1⟩ := ob hf1
        refine r_iinc (lv' := [(3, .int t43), (0, .ref v0), (2, .int t41)]) C dX2_readCase_141 rfl e44 (by decide) rfl ?_
        refine r_goto (tgt := 29) C dX2_readCase_144 (by decide) ?_
        obtain rfl := so hf1
        refine r_subk [1, 2, 0] (lv' := [(0, .ref v0), (2, .int t41), (3, .int t43)]) rfl ?_
        exact ih29 t41 t43 h40 hk29
      refine r_iload_n C dX2_readCase_29 rfl ?_
      refine r_sipush (v := 901) C dX2_readCase_30 (by decide) ?_
      refine r_icmp_ge (tgt := 147) C dX2_readCase_33 (by decide) (fun c45 => ?_) (fun c45 => ?_)
      · rw [if_pos c45] at hf1
        obtain rfl := so hf1
        obtain ⟨rfl, rfl⟩ := so2 (show some (t37, h39) = some (y35, y36) from hk29)
        refine r_subk [0, 1] (lv' := [(0, .ref v0), (2, .int t37)]) rfl ?_
        exact J147 h39 v0 t37 hf0
      · rw [if_neg c45] at hf1
        refine r_iload_n C dX2_readCase_36 rfl ?_
        refine r_ifeq (tgt := 147) C dX2_readCase_37 (by decide) (fun c46 => ?_) (fun c46 => ?_)
        · rw [if_pos c46] at hf1
          obtain rfl := so hf1
          obtain ⟨rfl, rfl⟩ := so2 (show some (t37, h39) = some (y35, y36) from hk29)
          refine r_subk [0, 1] (lv' := [(0, .ref v0), (2, .int t37)]) rfl ?_
          exact J147 h39 v0 t37 hf0
        · rw [if_neg c46] at hf1
          refine r_aload_n C dX2_readCase_40 rfl ?_
          obtain ⟨t47, e48, hf1⟩ := ob hf1
          refine r_getR C fk_X2_36 rfl dX2_readCase_41 e48 ?_
          obtain ⟨t49, e50, hf1⟩ := ob hf1
          refine r_getI C fk_X2_55 rfl dX2_readCase_44 e50 ?_
          refine r_ifeq (tgt := 147) C dX2_readCase_47 (by decide) (fun c51 => ?_) (fun c51 => ?_)
          · rw [if_pos c51] at hf1
            obtain rfl := so hf1
            obtain ⟨rfl, rfl⟩ := so2 (show some (t37, h39) = some (y35, y36) from hk29)
            refine r_subk [0, 1] (lv' := [(0, .ref v0), (2, .int t37)]) rfl ?_
            exact J147 h39 v0 t37 hf0
          · rw [if_neg c51] at hf1
            refine r_aload_n C dX2_readCase_50 rfl ?_
            obtain ⟨t52, e53, hf1⟩ := ob hf1
            refine r_getR C fk_X2_36 rfl dX2_readCase_51 e53 ?_
            obtain ⟨t54, e55, hf1⟩ := ob hf1
            refine r_getI C fk_X2_55 rfl dX2_readCase_54 e55 ?_
            by_cases c56 : t54 = (8 : Int32)
            · rw [if_pos c56] at hf1
              refine r_tabIn (k := 8) (off := 43) (tgt := 100) C dX2_readCase_57 c56 (by decide) (by decide) (by decide) (by decide) ?_
              refine r_aload_n C dX2_readCase_100 rfl ?_
              obtain ⟨u58, e57, hf1⟩ := ob hf1
              obtain ⟨t59, h60, e61, hf1⟩ := ob2 hf1
              refine r_cV (ci := 2) (rest := []) (st2 := [.int t59]) C (s_X2_readFact e61) mk_X2_readFact rfl (ck_k e57) (by decide) im_X2_readFact sl_X2_readFact lk_X2_61 rfl rfl rfl dX2_readCase_101 (Nat.le_of_ble_eq_true rfl) ⟨Nat.le_of_ble_eq_true rfl, Nat.le_of_ble_eq_true rfl⟩ ⟨Nat.le_of_ble_eq_true rfl, Nat.le_of_ble_eq_true rfl⟩ ?_
              refine r_istore_n (lv' := [(2, .int t59), (0, .ref v0), (3, .int t38)]) C dX2_readCase_104 (by decide) rfl rfl ?_
              refine r_goto (tgt := 141) C dX2_readCase_105 (by decide) ?_
              refine r_subk [1, 0, 2] (lv' := [(0, .ref v0), (2, .int t59), (3, .int t38)]) rfl ?_
              exact J141 h60 t59 t38 hf1
            · rw [if_neg c56] at hf1
              by_cases c62 : t54 = (10 : Int32)
              · rw [if_pos c62] at hf1
                refine r_tabIn (k := 10) (off := 51) (tgt := 108) C dX2_readCase_57 c62 (by decide) (by decide) (by decide) (by decide) ?_
                refine r_aload_n C dX2_readCase_108 rfl ?_
                obtain ⟨u64, e63, hf1⟩ := ob hf1
                obtain ⟨t65, h66, e67, hf1⟩ := ob2 hf1
                refine r_cV (ci := 2) (rest := []) (st2 := [.int t65]) C (s_X2_readNever e67) mk_X2_readNever rfl (ck_k e63) (by decide) im_X2_readNever sl_X2_readNever lk_X2_65 rfl rfl rfl dX2_readCase_109 (Nat.le_of_ble_eq_true rfl) ⟨Nat.le_of_ble_eq_true rfl, Nat.le_of_ble_eq_true rfl⟩ ⟨Nat.le_of_ble_eq_true rfl, Nat.le_of_ble_eq_true rfl⟩ ?_
                refine r_istore_n (lv' := [(2, .int t65), (0, .ref v0), (3, .int t38)]) C dX2_readCase_112 (by decide) rfl rfl ?_
                refine r_goto (tgt := 141) C dX2_readCase_113 (by decide) ?_
                refine r_subk [1, 0, 2] (lv' := [(0, .ref v0), (2, .int t65), (3, .int t38)]) rfl ?_
                exact J141 h66 t65 t38 hf1
              · rw [if_neg c62] at hf1
                by_cases c68 : t54 = (11 : Int32)
                · rw [if_pos c68] at hf1
                  refine r_tabIn (k := 11) (off := 59) (tgt := 116) C dX2_readCase_57 c68 (by decide) (by decide) (by decide) (by decide) ?_
                  refine r_aload_n C dX2_readCase_116 rfl ?_
                  obtain ⟨u70, e69, hf1⟩ := ob hf1
                  obtain ⟨t71, h72, e73, hf1⟩ := ob2 hf1
                  refine r_cV (ci := 2) (rest := []) (st2 := [.int t71]) C (s_X2_readQuestion e73) mk_X2_readQuestion rfl (ck_k e69) (by decide) im_X2_readQuestion sl_X2_readQuestion lk_X2_68 rfl rfl rfl dX2_readCase_117 (Nat.le_of_ble_eq_true rfl) ⟨Nat.le_of_ble_eq_true rfl, Nat.le_of_ble_eq_true rfl⟩ ⟨Nat.le_of_ble_eq_true rfl, Nat.le_of_ble_eq_true rfl⟩ ?_
                  refine r_istore_n (lv' := [(2, .int t71), (0, .ref v0), (3, .int t38)]) C dX2_readCase_120 (by decide) rfl rfl ?_
                  refine r_goto (tgt := 141) C dX2_readCase_121 (by decide) ?_
                  refine r_subk [1, 0, 2] (lv' := [(0, .ref v0), (2, .int t71), (3, .int t38)]) rfl ?_
                  exact J141 h72 t71 t38 hf1
                · rw [if_neg c68] at hf1
                  by_cases c74 : t54 = (14 : Int32)
                  · rw [if_pos c74] at hf1
                    refine r_tabIn (k := 14) (off := 67) (tgt := 124) C dX2_readCase_57 c74 (by decide) (by decide) (by decide) (by decide) ?_
                    refine r_aload_n C dX2_readCase_124 rfl ?_
                    obtain ⟨u76, e75, hf1⟩ := ob hf1
                    obtain ⟨t77, h78, e79, hf1⟩ := ob2 hf1
                    refine r_cV (ci := 2) (rest := []) (st2 := [.int t77]) C (s_X2_readWitness e79) mk_X2_readWitness rfl (ck_k e75) (by decide) im_X2_readWitness sl_X2_readWitness lk_X2_71 rfl rfl rfl dX2_readCase_125 (Nat.le_of_ble_eq_true rfl) ⟨Nat.le_of_ble_eq_true rfl, Nat.le_of_ble_eq_true rfl⟩ ⟨Nat.le_of_ble_eq_true rfl, Nat.le_of_ble_eq_true rfl⟩ ?_
                    refine r_istore_n (lv' := [(2, .int t77), (0, .ref v0), (3, .int t38)]) C dX2_readCase_128 (by decide) rfl rfl ?_
                    refine r_goto (tgt := 141) C dX2_readCase_129 (by decide) ?_
                    refine r_subk [1, 0, 2] (lv' := [(0, .ref v0), (2, .int t77), (3, .int t38)]) rfl ?_
                    exact J141 h78 t77 t38 hf1
                  · rw [if_neg c74] at hf1
                    by_cases c80 : t54 = (9 : Int32)
                    · refine r_tabIn (k := 9) (off := 75) (tgt := 132) C dX2_readCase_57 c80 (by decide) (by decide) (by decide) (by decide) ?_
                      refine r_aload_n C dX2_readCase_132 rfl ?_
                      obtain ⟨t81, e82, hf1⟩ := ob hf1
                      refine r_getR C fk_X2_36 rfl dX2_readCase_133 e82 ?_
                      refine r_iconst (v := 2) C dX2_readCase_136 (by decide) ?_
                      obtain ⟨u84, e83, hf1⟩ := ob hf1
                      obtain ⟨t85, h86, e87, hf1⟩ := ob2 hf1
                      refine r_cV (ci := 4) (rest := []) (st2 := [.int t85]) C (s_X4_refuseHere e87) mk_X4_refuseHere rfl (ck_k e83) (by decide) im_X4_refuseHere sl_X4_refuseHere lk_X2_74 rfl rfl rfl dX2_readCase_137 (Nat.le_of_ble_eq_true rfl) ⟨Nat.le_of_ble_eq_true rfl, Nat.le_of_ble_eq_true rfl⟩ ⟨Nat.le_of_ble_eq_true rfl, Nat.le_of_ble_eq_true rfl⟩ ?_
                      refine r_istore_n (lv' := [(2, .int t85), (0, .ref v0), (3, .int t38)]) C dX2_readCase_140 (by decide) rfl rfl ?_
                      refine r_subk [1, 0, 2] (lv' := [(0, .ref v0), (2, .int t85), (3, .int t38)]) rfl ?_
                      exact J141 h86 t85 t38 hf1
                    · by_cases c88 : t54 = (12 : Int32)
                      · refine r_tabIn (k := 12) (off := 75) (tgt := 132) C dX2_readCase_57 c88 (by decide) (by decide) (by decide) (by decide) ?_
                        refine r_aload_n C dX2_readCase_132 rfl ?_
                        obtain ⟨t89, e90, hf1⟩ := ob hf1
                        refine r_getR C fk_X2_36 rfl dX2_readCase_133 e90 ?_
                        refine r_iconst (v := 2) C dX2_readCase_136 (by decide) ?_
                        obtain ⟨u92, e91, hf1⟩ := ob hf1
                        obtain ⟨t93, h94, e95, hf1⟩ := ob2 hf1
                        refine r_cV (ci := 4) (rest := []) (st2 := [.int t93]) C (s_X4_refuseHere e95) mk_X4_refuseHere rfl (ck_k e91) (by decide) im_X4_refuseHere sl_X4_refuseHere lk_X2_74 rfl rfl rfl dX2_readCase_137 (Nat.le_of_ble_eq_true rfl) ⟨Nat.le_of_ble_eq_true rfl, Nat.le_of_ble_eq_true rfl⟩ ⟨Nat.le_of_ble_eq_true rfl, Nat.le_of_ble_eq_true rfl⟩ ?_
                        refine r_istore_n (lv' := [(2, .int t93), (0, .ref v0), (3, .int t38)]) C dX2_readCase_140 (by decide) rfl rfl ?_
                        refine r_subk [1, 0, 2] (lv' := [(0, .ref v0), (2, .int t93), (3, .int t38)]) rfl ?_
                        exact J141 h94 t93 t38 hf1
                      · by_cases c96 : t54 = (13 : Int32)
                        · refine r_tabIn (k := 13) (off := 75) (tgt := 132) C dX2_readCase_57 c96 (by decide) (by decide) (by decide) (by decide) ?_
                          refine r_aload_n C dX2_readCase_132 rfl ?_
                          obtain ⟨t97, e98, hf1⟩ := ob hf1
                          refine r_getR C fk_X2_36 rfl dX2_readCase_133 e98 ?_
                          refine r_iconst (v := 2) C dX2_readCase_136 (by decide) ?_
                          obtain ⟨u100, e99, hf1⟩ := ob hf1
                          obtain ⟨t101, h102, e103, hf1⟩ := ob2 hf1
                          refine r_cV (ci := 4) (rest := []) (st2 := [.int t101]) C (s_X4_refuseHere e103) mk_X4_refuseHere rfl (ck_k e99) (by decide) im_X4_refuseHere sl_X4_refuseHere lk_X2_74 rfl rfl rfl dX2_readCase_137 (Nat.le_of_ble_eq_true rfl) ⟨Nat.le_of_ble_eq_true rfl, Nat.le_of_ble_eq_true rfl⟩ ⟨Nat.le_of_ble_eq_true rfl, Nat.le_of_ble_eq_true rfl⟩ ?_
                          refine r_istore_n (lv' := [(2, .int t101), (0, .ref v0), (3, .int t38)]) C dX2_readCase_140 (by decide) rfl rfl ?_
                          refine r_subk [1, 0, 2] (lv' := [(0, .ref v0), (2, .int t101), (3, .int t38)]) rfl ?_
                          exact J141 h102 t101 t38 hf1
                        · refine r_tabOut (tgt := 132) C dX2_readCase_57 (tsw (fun j j1 j2 => ?_)) (by decide) ?_
                          · rcases (show j = 8 ∨ j = 9 ∨ j = 10 ∨ j = 11 ∨ j = 12 ∨ j = 13 ∨ j = 14 by omega) with rfl | rfl | rfl | rfl | rfl | rfl | rfl
                            · exact tsw_ne c56
                            · exact tsw_ne c80
                            · exact tsw_ne c62
                            · exact tsw_ne c68
                            · exact tsw_ne c88
                            · exact tsw_ne c96
                            · exact tsw_ne c74
                          · refine r_aload_n C dX2_readCase_132 rfl ?_
                            obtain ⟨t104, e105, hf1⟩ := ob hf1
                            refine r_getR C fk_X2_36 rfl dX2_readCase_133 e105 ?_
                            refine r_iconst (v := 2) C dX2_readCase_136 (by decide) ?_
                            obtain ⟨u107, e106, hf1⟩ := ob hf1
                            obtain ⟨t108, h109, e110, hf1⟩ := ob2 hf1
                            refine r_cV (ci := 4) (rest := []) (st2 := [.int t108]) C (s_X4_refuseHere e110) mk_X4_refuseHere rfl (ck_k e106) (by decide) im_X4_refuseHere sl_X4_refuseHere lk_X2_74 rfl rfl rfl dX2_readCase_137 (Nat.le_of_ble_eq_true rfl) ⟨Nat.le_of_ble_eq_true rfl, Nat.le_of_ble_eq_true rfl⟩ ⟨Nat.le_of_ble_eq_true rfl, Nat.le_of_ble_eq_true rfl⟩ ?_
                            refine r_istore_n (lv' := [(2, .int t108), (0, .ref v0), (3, .int t38)]) C dX2_readCase_140 (by decide) rfl rfl ?_
                            refine r_subk [1, 0, 2] (lv' := [(0, .ref v0), (2, .int t108), (3, .int t38)]) rfl ?_
                            exact J141 h109 t108 t38 hf1
  refine r_subk [2, 1, 0] (lv' := [(0, .ref v0), (2, .int (1 : Int32)), (3, .int (0 : Int32))]) rfl ?_
  exact L29 wN (1 : Int32) (0 : Int32) h33 hl29
def f_X6_init (h : aH) (v0 : Nat) : Option (aH) := bd2 (nwO h 20 12) fun t1 h2 => (pR h2 6 v0 0 t1).bind fun h3 => bd2 (nwO h3 20 12) fun t4 h5 => (pR h5 6 v0 1 t4).bind fun h6 => bd2 (nwO h6 20 12) fun t7 h8 => (pR h8 6 v0 2 t7).bind fun h9 => bd2 (nwO h9 20 12) fun t10 h11 => (pR h11 6 v0 3 t10).bind fun h12 => (pI h12 6 v0 4 (0 : Int32)).bind fun h13 => (pI h13 6 v0 5 (0 : Int32)).bind fun h14 => some h14
theorem s_X6_init {h : aH} {v0 : Nat} {out : aH} (hf0 : f_X6_init h v0 = some out) : EV 1 yX6_init cX6_init 1 none h [.ref v0] none out 4 48 := by
  refine EV.of (own := RX6) (lv0 := [(0, .ref v0)]) (by decide +kernel) rfl rfl (Nat.le_of_ble_eq_true rfl) ?_
  intro p l e s m args below meth c D cA B Hb C hin
  unfold f_X6_init at hf0
  refine r_aload_n C dX6_init_0 rfl ?_
  refine r_obj C lk_X6_3 dX6_init_1 ⟨Nat.le_of_ble_eq_true rfl, Nat.le_of_ble_eq_true rfl⟩ (Nat.le_of_ble_eq_true rfl) ?_
  refine r_aload_n C dX6_init_4 rfl ?_
  refine r_bipush (v := 12) C dX6_init_5 (by decide) ?_
  obtain ⟨t1, h2, e3, hf0⟩ := ob2 hf0
  refine r_newIE C dX6_init_7 (by decide) (by decide) (by decide) ⟨Nat.le_of_ble_eq_true rfl, Nat.le_of_ble_eq_true rfl⟩ e3 ?_
  obtain ⟨h4, e5, hf0⟩ := ob hf0
  refine r_putFR C fk_X6_9 ⟨_, _, rfl⟩ (Or.inr ⟨_, rfl⟩) hin dX6_init_9 e5 ?_
  refine r_aload_n C dX6_init_12 rfl ?_
  refine r_bipush (v := 12) C dX6_init_13 (by decide) ?_
  obtain ⟨t6, h7, e8, hf0⟩ := ob2 hf0
  refine r_newIE C dX6_init_15 (by decide) (by decide) (by decide) ⟨Nat.le_of_ble_eq_true rfl, Nat.le_of_ble_eq_true rfl⟩ e8 ?_
  obtain ⟨h9, e10, hf0⟩ := ob hf0
  refine r_putFR C fk_X6_15 ⟨_, _, rfl⟩ (Or.inr ⟨_, rfl⟩) hin dX6_init_17 e10 ?_
  refine r_aload_n C dX6_init_20 rfl ?_
  refine r_bipush (v := 12) C dX6_init_21 (by decide) ?_
  obtain ⟨t11, h12, e13, hf0⟩ := ob2 hf0
  refine r_newIE C dX6_init_23 (by decide) (by decide) (by decide) ⟨Nat.le_of_ble_eq_true rfl, Nat.le_of_ble_eq_true rfl⟩ e13 ?_
  obtain ⟨h14, e15, hf0⟩ := ob hf0
  refine r_putFR C fk_X6_18 ⟨_, _, rfl⟩ (Or.inr ⟨_, rfl⟩) hin dX6_init_25 e15 ?_
  refine r_aload_n C dX6_init_28 rfl ?_
  refine r_bipush (v := 12) C dX6_init_29 (by decide) ?_
  obtain ⟨t16, h17, e18, hf0⟩ := ob2 hf0
  refine r_newIE C dX6_init_31 (by decide) (by decide) (by decide) ⟨Nat.le_of_ble_eq_true rfl, Nat.le_of_ble_eq_true rfl⟩ e18 ?_
  obtain ⟨h19, e20, hf0⟩ := ob hf0
  refine r_putFR C fk_X6_21 ⟨_, _, rfl⟩ (Or.inr ⟨_, rfl⟩) hin dX6_init_33 e20 ?_
  refine r_aload_n C dX6_init_36 rfl ?_
  refine r_iconst (v := 0) C dX6_init_37 (by decide) ?_
  obtain ⟨h21, e22, hf0⟩ := ob hf0
  refine r_putI C fk_X6_24 dX6_init_38 e22 ?_
  refine r_aload_n C dX6_init_41 rfl ?_
  refine r_iconst (v := 0) C dX6_init_42 (by decide) ?_
  obtain ⟨h23, e24, hf0⟩ := ob hf0
  refine r_putI C fk_X6_28 dX6_init_43 e24 ?_
  obtain rfl := so hf0
  exact r_vret C dX6_init_46
def f_X3_agreeing (h : aH) (v0 : Nat) (v1 : Int32) (v2 : Int32) : Option (Int32) := (gR h 3 v0 0).bind fun t1 => (gR h 6 t1 0).bind fun t2 => (lI h t2 v1).bind fun t3 => (some (t3 * (4 : Int32))).bind fun t4 => (gR h 3 v0 4).bind fun t5 => (gR h 3 v0 0).bind fun t6 => (gR h 6 t6 0).bind fun t7 => (lI h t7 v1).bind fun t8 => (gR h 3 v0 0).bind fun t9 => (gR h 6 t9 1).bind fun t10 => (lI h t10 v1).bind fun t11 => (ck h 1 t5).bind fun _ => (f_X1_packedAnswers h t5 t8 t11 v2).bind fun t12 => (gR h 3 v0 0).bind fun t13 => (gR h 6 t13 2).bind fun t14 => (lI h t14 v1).bind fun t15 => (f_X1_kindsAnswering h t12 t15).bind fun t16 => some (((65535 : Int32) &&& (((15 : Int32) <<< (t4 &&& 31)) ^^^ (-1 : Int32))) ||| (t16 <<< (t4 &&& 31)))
theorem s_X3_agreeing {h : aH} {v0 : Nat} {v1 : Int32} {v2 : Int32} {out : Int32} (hf0 : f_X3_agreeing h v0 v1 v2 = some out) : EV 1 yX3_agreeing cX3_agreeing 6 (some .int) h [.ref v0, .int v1, .int v2] (some (.int out)) h 0 0 := by
  refine EV.of (own := RX3) (lv0 := [(0, .ref v0), (1, .int v1), (2, .int v2)]) (by decide +kernel) rfl rfl (Nat.le_of_ble_eq_true rfl) ?_
  intro p l e s m args below meth c D cA B Hb C hin
  unfold f_X3_agreeing at hf0
  refine r_aload_n C dX3_agreeing_0 rfl ?_
  obtain ⟨t1, e2, hf0⟩ := ob hf0
  refine r_getR C fk_X3_12 rfl dX3_agreeing_1 e2 ?_
  obtain ⟨t3, e4, hf0⟩ := ob hf0
  refine r_getR C fk_X3_77 rfl dX3_agreeing_4 e4 ?_
  refine r_iload_n C dX3_agreeing_7 rfl ?_
  obtain ⟨t5, e6, hf0⟩ := ob hf0
  refine r_ldI C dX3_agreeing_8 e6 ?_
  refine r_iconst (v := 4) C dX3_agreeing_9 (by decide) ?_
  refine r_imul C dX3_agreeing_10 ?_
  obtain ⟨t7, e8, hf0⟩ := ob hf0
  refine r_istore_n (lv' := [(3, .int t7), (0, .ref v0), (1, .int v1), (2, .int v2)]) C dX3_agreeing_11 (by decide) e8 rfl ?_
  refine r_aload_n C dX3_agreeing_12 rfl ?_
  obtain ⟨t9, e10, hf0⟩ := ob hf0
  refine r_getR C fk_X3_35 rfl dX3_agreeing_13 e10 ?_
  refine r_aload_n C dX3_agreeing_16 rfl ?_
  obtain ⟨t11, e12, hf0⟩ := ob hf0
  refine r_getR C fk_X3_12 rfl dX3_agreeing_17 e12 ?_
  obtain ⟨t13, e14, hf0⟩ := ob hf0
  refine r_getR C fk_X3_77 rfl dX3_agreeing_20 e14 ?_
  refine r_iload_n C dX3_agreeing_23 rfl ?_
  obtain ⟨t15, e16, hf0⟩ := ob hf0
  refine r_ldI C dX3_agreeing_24 e16 ?_
  refine r_aload_n C dX3_agreeing_25 rfl ?_
  obtain ⟨t17, e18, hf0⟩ := ob hf0
  refine r_getR C fk_X3_12 rfl dX3_agreeing_26 e18 ?_
  obtain ⟨t19, e20, hf0⟩ := ob hf0
  refine r_getR C fk_X3_70 rfl dX3_agreeing_29 e20 ?_
  refine r_iload_n C dX3_agreeing_32 rfl ?_
  obtain ⟨t21, e22, hf0⟩ := ob hf0
  refine r_ldI C dX3_agreeing_33 e22 ?_
  refine r_iload_n C dX3_agreeing_34 rfl ?_
  obtain ⟨u24, e23, hf0⟩ := ob hf0
  obtain ⟨t25, e26, hf0⟩ := ob hf0
  refine r_cV (ci := 1) (rest := []) (st2 := [.int t25]) C (s_X1_packedAnswers e26) mk_X1_packedAnswers rfl (ck_k e23) (by decide) im_X1_packedAnswers sl_X1_packedAnswers lk_X3_83 rfl rfl rfl dX3_agreeing_35 (Nat.le_of_ble_eq_true rfl) ⟨Nat.le_of_ble_eq_true rfl, Nat.le_of_ble_eq_true rfl⟩ ⟨Nat.le_of_ble_eq_true rfl, Nat.le_of_ble_eq_true rfl⟩ ?_
  refine r_istore (lv' := [(4, .int t25), (3, .int t7), (0, .ref v0), (1, .int v1), (2, .int v2)]) C dX3_agreeing_38 (by decide) rfl rfl ?_
  refine r_iload C dX3_agreeing_40 rfl ?_
  refine r_aload_n C dX3_agreeing_42 rfl ?_
  obtain ⟨t27, e28, hf0⟩ := ob hf0
  refine r_getR C fk_X3_12 rfl dX3_agreeing_43 e28 ?_
  obtain ⟨t29, e30, hf0⟩ := ob hf0
  refine r_getR C fk_X3_87 rfl dX3_agreeing_46 e30 ?_
  refine r_iload_n C dX3_agreeing_49 rfl ?_
  obtain ⟨t31, e32, hf0⟩ := ob hf0
  refine r_ldI C dX3_agreeing_50 e32 ?_
  obtain ⟨t33, e34, hf0⟩ := ob hf0
  refine r_cS (rest := []) (st2 := [.int t33]) C (s_X1_kindsAnswering e34) mk_X1_kindsAnswering sm_X1_kindsAnswering lk_X3_90 rfl rfl rfl dX3_agreeing_51 (Nat.le_of_ble_eq_true rfl) ⟨Nat.le_of_ble_eq_true rfl, Nat.le_of_ble_eq_true rfl⟩ ⟨Nat.le_of_ble_eq_true rfl, Nat.le_of_ble_eq_true rfl⟩ ?_
  refine r_istore (lv' := [(5, .int t33), (4, .int t25), (3, .int t7), (0, .ref v0), (1, .int v1), (2, .int v2)]) C dX3_agreeing_54 (by decide) rfl rfl ?_
  refine r_ldc (v := 65535) C dX3_agreeing_56 cn_X3_65 ?_
  refine r_bipush (v := 15) C dX3_agreeing_58 (by decide) ?_
  refine r_iload_n C dX3_agreeing_60 rfl ?_
  refine r_ishl C dX3_agreeing_61 ?_
  refine r_iconst (v := -1) C dX3_agreeing_62 (by decide) ?_
  refine r_ixor C dX3_agreeing_63 ?_
  refine r_iand C dX3_agreeing_64 ?_
  refine r_iload C dX3_agreeing_65 rfl ?_
  refine r_iload_n C dX3_agreeing_67 rfl ?_
  refine r_ishl C dX3_agreeing_68 ?_
  refine r_ior C dX3_agreeing_69 ?_
  obtain rfl := so hf0
  exact r_iret C dX3_agreeing_70
def f_X3_kindsLeft (h : aH) (v0 : Nat) (v1 : Int32) (v2 : Int32) : Option (Int32) := (gR h 3 v0 1).bind fun t1 => (lI h t1 v2).bind fun t2 => (gR h 3 v0 4).bind fun t3 => (gI h 1 t3 18).bind fun t4 => some (((t2 &&& t4) >>> ((v1 * (4 : Int32)) &&& 31)) &&& (15 : Int32))
theorem s_X3_kindsLeft {h : aH} {v0 : Nat} {v1 : Int32} {v2 : Int32} {out : Int32} (hf0 : f_X3_kindsLeft h v0 v1 v2 = some out) : EV 0 yX3_kindsLeft cX3_kindsLeft 3 (some .int) h [.ref v0, .int v1, .int v2] (some (.int out)) h 0 0 := by
  refine EV.of (own := RX3) (lv0 := [(0, .ref v0), (1, .int v1), (2, .int v2)]) (by decide +kernel) rfl rfl (Nat.le_of_ble_eq_true rfl) ?_
  intro p l e s m args below meth c D cA B Hb C hin
  unfold f_X3_kindsLeft at hf0
  refine r_aload_n C dX3_kindsLeft_0 rfl ?_
  obtain ⟨t1, e2, hf0⟩ := ob hf0
  refine r_getR C fk_X3_18 rfl dX3_kindsLeft_1 e2 ?_
  refine r_iload_n C dX3_kindsLeft_4 rfl ?_
  obtain ⟨t3, e4, hf0⟩ := ob hf0
  refine r_ldI C dX3_kindsLeft_5 e4 ?_
  refine r_aload_n C dX3_kindsLeft_6 rfl ?_
  obtain ⟨t5, e6, hf0⟩ := ob hf0
  refine r_getR C fk_X3_35 rfl dX3_kindsLeft_7 e6 ?_
  obtain ⟨t7, e8, hf0⟩ := ob hf0
  refine r_getI C fk_X3_93 rfl dX3_kindsLeft_10 e8 ?_
  refine r_iand C dX3_kindsLeft_13 ?_
  refine r_iload_n C dX3_kindsLeft_14 rfl ?_
  refine r_iconst (v := 4) C dX3_kindsLeft_15 (by decide) ?_
  refine r_imul C dX3_kindsLeft_16 ?_
  refine r_ishr C dX3_kindsLeft_17 ?_
  refine r_bipush (v := 15) C dX3_kindsLeft_18 (by decide) ?_
  refine r_iand C dX3_kindsLeft_20 ?_
  obtain rfl := so hf0
  exact r_iret C dX3_kindsLeft_21
def f_X3_narrow_j59 (h : aH) (v0 : Nat) (v1 : Int32) (v2 : Int32) : Option ((Int32 × aH) ⊕ (aH)) := (some (v2 + (1 : Int32))).bind fun t6 => some (.inl (t6, h))
def f_X3_narrow_b22 (v0 : Nat) (v1 : Int32) (v2 : Int32) (h : aH) : Option ((Int32 × aH) ⊕ (aH)) := (gR h 3 v0 4).bind fun t7 => (gI h 1 t7 14).bind fun t8 => if t8 ≤ v2 then some (.inr h) else (gR h 3 v0 4).bind fun t9 => (ck h 1 t9).bind fun _ => (f_X1_canBe h t9 v2).bind fun t10 => if t10 = 0 then f_X3_narrow_j59 h v0 v1 v2 else (gR h 3 v0 1).bind fun t11 => (lI h t11 v2).bind fun t12 => (ck h 3 v0).bind fun _ => (f_X3_agreeing h v0 v1 v2).bind fun t13 => (sI h t11 v2 (t12 &&& t13)).bind fun h14 => f_X3_narrow_j59 h14 v0 v1 v2
def f_X3_narrow_l22 (v0 : Nat) (v1 : Int32) (v2 : Int32) (h : aH) : Option (aH) := whileL wN (fun q : Int32 × aH => f_X3_narrow_b22 v0 v1 q.1 q.2) (v2, h)
def f_X3_narrow_j114 (h : aH) (v0 : Nat) (v1 : Int32) (v2 : Int32) (v3 : Int32) : Option ((Int32 × Int32 × aH) ⊕ (Int32 × aH)) := (some (v3 + (1 : Int32))).bind fun t16 => some (.inl (v2, t16, h))
def f_X3_narrow_b69 (v0 : Nat) (v1 : Int32) (v2 : Int32) (v3 : Int32) (h : aH) : Option ((Int32 × Int32 × aH) ⊕ (Int32 × aH)) := (gI h 3 v0 5).bind fun t17 => if t17 ≤ v3 then some (.inr (v2, h)) else (gR h 3 v0 0).bind fun t18 => (gR h 6 t18 0).bind fun t19 => (lI h t19 v1).bind fun t20 => (gR h 3 v0 2).bind fun t21 => (lI h t21 v3).bind fun t22 => (ck h 3 v0).bind fun _ => (f_X3_kindsLeft h v0 t20 t22).bind fun t23 => if t23 = 0 then f_X3_narrow_j114 h v0 v1 v2 v3 else (gR h 3 v0 2).bind fun t24 => (gR h 3 v0 2).bind fun t25 => (lI h t25 v3).bind fun t26 => (sI h t24 v2 t26).bind fun h27 => (some (v2 + (1 : Int32))).bind fun t28 => f_X3_narrow_j114 h27 v0 v1 t28 v3
def f_X3_narrow_l69 (v0 : Nat) (v1 : Int32) (v2 : Int32) (v3 : Int32) (h : aH) : Option (Int32 × aH) := whileL wN (fun q : Int32 × Int32 × aH => f_X3_narrow_b69 v0 v1 q.1 q.2.1 q.2.2) (v2, v3, h)
def f_X3_narrow (h : aH) (v0 : Nat) (v1 : Int32) : Option (aH) := (gI h 3 v0 6).bind fun t1 => (gR h 3 v0 0).bind fun t2 => (gR h 6 t2 1).bind fun t3 => (lI h t3 v1).bind fun t4 => (pI h 3 v0 6 (t1 ||| ((1 : Int32) <<< (t4 &&& 31)))).bind fun h5 => (f_X3_narrow_l22 v0 v1 (0 : Int32) h5).bind fun h15 => bd2 (f_X3_narrow_l69 v0 v1 (0 : Int32) (0 : Int32) h15) fun t29 h30 => (pI h30 3 v0 5 t29).bind fun h31 => some h31
theorem s_X3_narrow {h : aH} {v0 : Nat} {v1 : Int32} {out : aH} (hf0 : f_X3_narrow h v0 v1 = some out) : EV 2 yX3_narrow cX3_narrow 4 none h [.ref v0, .int v1] none out 0 0 := by
  refine EV.of (own := RX3) (lv0 := [(0, .ref v0), (1, .int v1)]) (by decide +kernel) rfl rfl (Nat.le_of_ble_eq_true rfl) ?_
  intro p l e s m args below meth c D cA B Hb C hin
  unfold f_X3_narrow at hf0
  refine r_aload_n C dX3_narrow_0 rfl ?_
  refine r_dup C dX3_narrow_1 rfl ?_
  obtain ⟨t1, e2, hf0⟩ := ob hf0
  refine r_getI C fk_X3_32 rfl dX3_narrow_2 e2 ?_
  refine r_iconst (v := 1) C dX3_narrow_5 (by decide) ?_
  refine r_aload_n C dX3_narrow_6 rfl ?_
  obtain ⟨t3, e4, hf0⟩ := ob hf0
  refine r_getR C fk_X3_12 rfl dX3_narrow_7 e4 ?_
  obtain ⟨t5, e6, hf0⟩ := ob hf0
  refine r_getR C fk_X3_70 rfl dX3_narrow_10 e6 ?_
  refine r_iload_n C dX3_narrow_13 rfl ?_
  obtain ⟨t7, e8, hf0⟩ := ob hf0
  refine r_ldI C dX3_narrow_14 e8 ?_
  refine r_ishl C dX3_narrow_15 ?_
  refine r_ior C dX3_narrow_16 ?_
  obtain ⟨h9, e10, hf0⟩ := ob hf0
  refine r_putI C fk_X3_32 dX3_narrow_17 e10 ?_
  refine r_iconst (v := 0) C dX3_narrow_20 (by decide) ?_
  refine r_istore_n (lv' := [(2, .int (0 : Int32)), (0, .ref v0), (1, .int v1)]) C dX3_narrow_21 (by decide) rfl rfl ?_
  obtain ⟨y11, hl22, hf0⟩ := ob hf0
  have L22 : ∀ (n : Nat) (t12 : Int32) (h13 : aH), whileL n (fun q : Int32 × aH => f_X3_narrow_b22 v0 v1 q.1 q.2) (t12, h13) = some y11 → gW p l e (rmO 2 0 0) s m args below meth c (MQ below (eQ D cA B Hb out none) args s 0 0 (fun q => B ≤ q)) D cA B Hb 4 h13 22 [(0, .ref v0), (1, .int v1), (2, .int t12)] [] 0 0 := by
    intro n
    induction n with
    | zero => intro t12 h13 hz; cases hz
    | succ n ih22 =>
      intro t12 h13 hz
      obtain ⟨x22, hf1, hk22⟩ := wl hz
      replace hf1 : f_X3_narrow_b22 v0 v1 t12 h13 = some x22 := hf1
      unfold f_X3_narrow_b22 at hf1
      have J59 : ∀ (h14 : aH) (t15 : Int32), f_X3_narrow_j59 h14 v0 v1 t15 = some x22 → gW p l e (rmO 2 0 0) s m args below meth c (MQ below (eQ D cA B Hb out none) args s 0 0 (fun q => B ≤ q)) D cA B Hb 4 h14 59 [(0, .ref v0), (1, .int v1), (2, .int t15)] [] 0 0 := by
        intro h14 t15 hf1
        unfold f_X3_narrow_j59 at hf1
        obtain ⟨t16, e17, hf1⟩ := ob hf1
        refine r_iinc (lv' := [(2, .int t16), (0, .ref v0), (1, .int v1)]) C dX3_narrow_59 rfl e17 (by decide) rfl ?_
        refine r_goto (tgt := 22) C dX3_narrow_62 (by decide) ?_
        obtain rfl := so hf1
        refine r_subk [1, 2, 0] (lv' := [(0, .ref v0), (1, .int v1), (2, .int t16)]) rfl ?_
        exact ih22 t16 h14 hk22
      refine r_iload_n C dX3_narrow_22 rfl ?_
      refine r_aload_n C dX3_narrow_23 rfl ?_
      obtain ⟨t18, e19, hf1⟩ := ob hf1
      refine r_getR C fk_X3_35 rfl dX3_narrow_24 e19 ?_
      obtain ⟨t20, e21, hf1⟩ := ob hf1
      refine r_getI C fk_X3_60 rfl dX3_narrow_27 e21 ?_
      refine r_icmp_ge (tgt := 65) C dX3_narrow_30 (by decide) (fun c22 => ?_) (fun c22 => ?_)
      · rw [if_pos c22] at hf1
        obtain rfl := so hf1
        obtain rfl := so (show some h13 = some y11 from hk22)
        refine r_iconst (v := 0) C dX3_narrow_65 (by decide) ?_
        refine r_istore_n (lv' := [(2, .int (0 : Int32)), (0, .ref v0), (1, .int v1)]) C dX3_narrow_66 (by decide) rfl rfl ?_
        refine r_iconst (v := 0) C dX3_narrow_67 (by decide) ?_
        refine r_istore_n (lv' := [(3, .int (0 : Int32)), (2, .int (0 : Int32)), (0, .ref v0), (1, .int v1)]) C dX3_narrow_68 (by decide) rfl rfl ?_
        obtain ⟨y23, y24, hl69, hf0⟩ := ob2 hf0
        have L69 : ∀ (n : Nat) (t25 : Int32) (t26 : Int32) (h27 : aH), whileL n (fun q : Int32 × Int32 × aH => f_X3_narrow_b69 v0 v1 q.1 q.2.1 q.2.2) (t25, t26, h27) = some (y23, y24) → gW p l e (rmO 2 0 0) s m args below meth c (MQ below (eQ D cA B Hb out none) args s 0 0 (fun q => B ≤ q)) D cA B Hb 4 h27 69 [(0, .ref v0), (1, .int v1), (2, .int t25), (3, .int t26)] [] 0 0 := by
          intro n
          induction n with
          | zero => intro t25 t26 h27 hz; cases hz
          | succ n ih69 =>
            intro t25 t26 h27 hz
            obtain ⟨x69, hf1, hk69⟩ := wl hz
            replace hf1 : f_X3_narrow_b69 v0 v1 t25 t26 h27 = some x69 := hf1
            unfold f_X3_narrow_b69 at hf1
            have J114 : ∀ (h28 : aH) (t29 : Int32) (t30 : Int32), f_X3_narrow_j114 h28 v0 v1 t29 t30 = some x69 → gW p l e (rmO 2 0 0) s m args below meth c (MQ below (eQ D cA B Hb out none) args s 0 0 (fun q => B ≤ q)) D cA B Hb 4 h28 114 [(0, .ref v0), (1, .int v1), (2, .int t29), (3, .int t30)] [] 0 0 := by
              intro h28 t29 t30 hf1
              unfold f_X3_narrow_j114 at hf1
              obtain ⟨t31, e32, hf1⟩ := ob hf1
              refine r_iinc (lv' := [(3, .int t31), (0, .ref v0), (1, .int v1), (2, .int t29)]) C dX3_narrow_114 rfl e32 (by decide) rfl ?_
              refine r_goto (tgt := 69) C dX3_narrow_117 (by decide) ?_
              obtain rfl := so hf1
              refine r_subk [1, 2, 3, 0] (lv' := [(0, .ref v0), (1, .int v1), (2, .int t29), (3, .int t31)]) rfl ?_
              exact ih69 t29 t31 h28 hk69
            refine r_iload_n C dX3_narrow_69 rfl ?_
            refine r_aload_n C dX3_narrow_70 rfl ?_
            obtain ⟨t33, e34, hf1⟩ := ob hf1
            refine r_getI C fk_X3_28 rfl dX3_narrow_71 e34 ?_
            refine r_icmp_ge (tgt := 120) C dX3_narrow_74 (by decide) (fun c35 => ?_) (fun c35 => ?_)
            · rw [if_pos c35] at hf1
              obtain rfl := so hf1
              obtain ⟨rfl, rfl⟩ := so2 (show some (t25, h27) = some (y23, y24) from hk69)
              refine r_aload_n C dX3_narrow_120 rfl ?_
              refine r_iload_n C dX3_narrow_121 rfl ?_
              obtain ⟨h36, e37, hf0⟩ := ob hf0
              refine r_putI C fk_X3_28 dX3_narrow_122 e37 ?_
              obtain rfl := so hf0
              exact r_vret C dX3_narrow_125
            · rw [if_neg c35] at hf1
              refine r_aload_n C dX3_narrow_77 rfl ?_
              refine r_aload_n C dX3_narrow_78 rfl ?_
              obtain ⟨t38, e39, hf1⟩ := ob hf1
              refine r_getR C fk_X3_12 rfl dX3_narrow_79 e39 ?_
              obtain ⟨t40, e41, hf1⟩ := ob hf1
              refine r_getR C fk_X3_77 rfl dX3_narrow_82 e41 ?_
              refine r_iload_n C dX3_narrow_85 rfl ?_
              obtain ⟨t42, e43, hf1⟩ := ob hf1
              refine r_ldI C dX3_narrow_86 e43 ?_
              refine r_aload_n C dX3_narrow_87 rfl ?_
              obtain ⟨t44, e45, hf1⟩ := ob hf1
              refine r_getR C fk_X3_22 rfl dX3_narrow_88 e45 ?_
              refine r_iload_n C dX3_narrow_91 rfl ?_
              obtain ⟨t46, e47, hf1⟩ := ob hf1
              refine r_ldI C dX3_narrow_92 e47 ?_
              obtain ⟨u49, e48, hf1⟩ := ob hf1
              obtain ⟨t50, e51, hf1⟩ := ob hf1
              refine r_cV (ci := 3) (rest := []) (st2 := [.int t50]) C (s_X3_kindsLeft e51) mk_X3_kindsLeft rfl (ck_k e48) (by decide) im_X3_kindsLeft sl_X3_kindsLeft lk_X3_80 rfl rfl rfl dX3_narrow_93 (Nat.le_of_ble_eq_true rfl) ⟨Nat.le_of_ble_eq_true rfl, Nat.le_of_ble_eq_true rfl⟩ ⟨Nat.le_of_ble_eq_true rfl, Nat.le_of_ble_eq_true rfl⟩ ?_
              refine r_ifeq (tgt := 114) C dX3_narrow_96 (by decide) (fun c52 => ?_) (fun c52 => ?_)
              · rw [if_pos c52] at hf1
                exact J114 h27 t25 t26 hf1
              · rw [if_neg c52] at hf1
                refine r_aload_n C dX3_narrow_99 rfl ?_
                obtain ⟨t53, e54, hf1⟩ := ob hf1
                refine r_getR C fk_X3_22 rfl dX3_narrow_100 e54 ?_
                refine r_iload_n C dX3_narrow_103 rfl ?_
                refine r_aload_n C dX3_narrow_104 rfl ?_
                obtain ⟨t55, e56, hf1⟩ := ob hf1
                refine r_getR C fk_X3_22 rfl dX3_narrow_105 e56 ?_
                refine r_iload_n C dX3_narrow_108 rfl ?_
                obtain ⟨t57, e58, hf1⟩ := ob hf1
                refine r_ldI C dX3_narrow_109 e58 ?_
                obtain ⟨h59, e60, hf1⟩ := ob hf1
                refine r_stI C dX3_narrow_110 e60 ?_
                obtain ⟨t61, e62, hf1⟩ := ob hf1
                refine r_iinc (lv' := [(2, .int t61), (0, .ref v0), (1, .int v1), (3, .int t26)]) C dX3_narrow_111 rfl e62 (by decide) rfl ?_
                refine r_subk [1, 2, 0, 3] (lv' := [(0, .ref v0), (1, .int v1), (2, .int t61), (3, .int t26)]) rfl ?_
                exact J114 h59 t61 t26 hf1
        refine r_subk [2, 3, 1, 0] (lv' := [(0, .ref v0), (1, .int v1), (2, .int (0 : Int32)), (3, .int (0 : Int32))]) rfl ?_
        exact L69 wN (0 : Int32) (0 : Int32) h13 hl69
      · rw [if_neg c22] at hf1
        refine r_aload_n C dX3_narrow_33 rfl ?_
        obtain ⟨t63, e64, hf1⟩ := ob hf1
        refine r_getR C fk_X3_35 rfl dX3_narrow_34 e64 ?_
        refine r_iload_n C dX3_narrow_37 rfl ?_
        obtain ⟨u66, e65, hf1⟩ := ob hf1
        obtain ⟨t67, e68, hf1⟩ := ob hf1
        refine r_cV (ci := 1) (rest := []) (st2 := [.int t67]) C (s_X1_canBe e68) mk_X1_canBe rfl (ck_k e65) (by decide) im_X1_canBe sl_X1_canBe lk_X3_66 rfl rfl rfl dX3_narrow_38 (Nat.le_of_ble_eq_true rfl) ⟨Nat.le_of_ble_eq_true rfl, Nat.le_of_ble_eq_true rfl⟩ ⟨Nat.le_of_ble_eq_true rfl, Nat.le_of_ble_eq_true rfl⟩ ?_
        refine r_ifeq (tgt := 59) C dX3_narrow_41 (by decide) (fun c69 => ?_) (fun c69 => ?_)
        · rw [if_pos c69] at hf1
          exact J59 h13 t12 hf1
        · rw [if_neg c69] at hf1
          refine r_aload_n C dX3_narrow_44 rfl ?_
          obtain ⟨t70, e71, hf1⟩ := ob hf1
          refine r_getR C fk_X3_18 rfl dX3_narrow_45 e71 ?_
          refine r_iload_n C dX3_narrow_48 rfl ?_
          refine r_dup2 C dX3_narrow_49 rfl rfl ?_
          obtain ⟨t72, e73, hf1⟩ := ob hf1
          refine r_ldI C dX3_narrow_50 e73 ?_
          refine r_aload_n C dX3_narrow_51 rfl ?_
          refine r_iload_n C dX3_narrow_52 rfl ?_
          refine r_iload_n C dX3_narrow_53 rfl ?_
          obtain ⟨u75, e74, hf1⟩ := ob hf1
          obtain ⟨t76, e77, hf1⟩ := ob hf1
          refine r_cV (ci := 3) (rest := [.int t72, .int t12, .ref t70]) (st2 := [.int t76, .int t72, .int t12, .ref t70]) C (s_X3_agreeing e77) mk_X3_agreeing rfl (ck_k e74) (by decide) im_X3_agreeing sl_X3_agreeing lk_X3_73 rfl rfl rfl dX3_narrow_54 (Nat.le_of_ble_eq_true rfl) ⟨Nat.le_of_ble_eq_true rfl, Nat.le_of_ble_eq_true rfl⟩ ⟨Nat.le_of_ble_eq_true rfl, Nat.le_of_ble_eq_true rfl⟩ ?_
          refine r_iand C dX3_narrow_57 ?_
          obtain ⟨h78, e79, hf1⟩ := ob hf1
          refine r_stI C dX3_narrow_58 e79 ?_
          exact J59 h78 t12 hf1
  refine r_subk [1, 2, 0] (lv' := [(0, .ref v0), (1, .int v1), (2, .int (0 : Int32))]) rfl ?_
  exact L22 wN (0 : Int32) h9 hl22
def f_X3_rebuild_j62 (h : aH) (v0 : Nat) (v1 : Int32) : Option ((Int32 × aH) ⊕ (aH)) := (some (v1 + (1 : Int32))).bind fun t3 => some (.inl (t3, h))
def f_X3_rebuild_b12 (v0 : Nat) (v1 : Int32) (h : aH) : Option ((Int32 × aH) ⊕ (aH)) := (gR h 3 v0 4).bind fun t4 => (gI h 1 t4 14).bind fun t5 => if t5 ≤ v1 then some (.inr h) else (gR h 3 v0 1).bind fun t6 => (sI h t6 v1 (65535 : Int32)).bind fun h7 => (gR h7 3 v0 4).bind fun t8 => (ck h7 1 t8).bind fun _ => (f_X1_canBe h7 t8 v1).bind fun t9 => if t9 = 0 then f_X3_rebuild_j62 h7 v0 v1 else (gR h7 3 v0 2).bind fun t10 => (gI h7 3 v0 5).bind fun t11 => (sI h7 t10 t11 v1).bind fun h12 => (gI h12 3 v0 5).bind fun t13 => (pI h12 3 v0 5 (t13 + (1 : Int32))).bind fun h14 => f_X3_rebuild_j62 h14 v0 v1
def f_X3_rebuild_l12 (v0 : Nat) (v1 : Int32) (h : aH) : Option (aH) := whileL wN (fun q : Int32 × aH => f_X3_rebuild_b12 v0 q.1 q.2) (v1, h)
def f_X3_rebuild_b70 (v0 : Nat) (v1 : Int32) (h : aH) : Option ((Int32 × aH) ⊕ (aH)) := (gR h 3 v0 0).bind fun t16 => (gI h 6 t16 4).bind fun t17 => if t17 ≤ v1 then some (.inr h) else (ck h 3 v0).bind fun _ => (f_X3_narrow h v0 v1).bind fun h18 => (some (v1 + (1 : Int32))).bind fun t19 => some (.inl (t19, h18))
def f_X3_rebuild_l70 (v0 : Nat) (v1 : Int32) (h : aH) : Option (aH) := whileL wN (fun q : Int32 × aH => f_X3_rebuild_b70 v0 q.1 q.2) (v1, h)
def f_X3_rebuild (h : aH) (v0 : Nat) : Option (aH) := (pI h 3 v0 5 (0 : Int32)).bind fun h1 => (pI h1 3 v0 6 (0 : Int32)).bind fun h2 => (f_X3_rebuild_l12 v0 (0 : Int32) h2).bind fun h15 => (f_X3_rebuild_l70 v0 (0 : Int32) h15).bind fun h20 => some h20
theorem s_X3_rebuild {h : aH} {v0 : Nat} {out : aH} (hf0 : f_X3_rebuild h v0 = some out) : EV 3 yX3_rebuild cX3_rebuild 2 none h [.ref v0] none out 0 0 := by
  refine EV.of (own := RX3) (lv0 := [(0, .ref v0)]) (by decide +kernel) rfl rfl (Nat.le_of_ble_eq_true rfl) ?_
  intro p l e s m args below meth c D cA B Hb C hin
  unfold f_X3_rebuild at hf0
  refine r_aload_n C dX3_rebuild_0 rfl ?_
  refine r_iconst (v := 0) C dX3_rebuild_1 (by decide) ?_
  obtain ⟨h1, e2, hf0⟩ := ob hf0
  refine r_putI C fk_X3_28 dX3_rebuild_2 e2 ?_
  refine r_aload_n C dX3_rebuild_5 rfl ?_
  refine r_iconst (v := 0) C dX3_rebuild_6 (by decide) ?_
  obtain ⟨h3, e4, hf0⟩ := ob hf0
  refine r_putI C fk_X3_32 dX3_rebuild_7 e4 ?_
  refine r_iconst (v := 0) C dX3_rebuild_10 (by decide) ?_
  refine r_istore_n (lv' := [(1, .int (0 : Int32)), (0, .ref v0)]) C dX3_rebuild_11 (by decide) rfl rfl ?_
  obtain ⟨y5, hl12, hf0⟩ := ob hf0
  have L12 : ∀ (n : Nat) (t6 : Int32) (h7 : aH), whileL n (fun q : Int32 × aH => f_X3_rebuild_b12 v0 q.1 q.2) (t6, h7) = some y5 → gW p l e (rmO 3 0 0) s m args below meth c (MQ below (eQ D cA B Hb out none) args s 0 0 (fun q => B ≤ q)) D cA B Hb 2 h7 12 [(0, .ref v0), (1, .int t6)] [] 0 0 := by
    intro n
    induction n with
    | zero => intro t6 h7 hz; cases hz
    | succ n ih12 =>
      intro t6 h7 hz
      obtain ⟨x12, hf1, hk12⟩ := wl hz
      replace hf1 : f_X3_rebuild_b12 v0 t6 h7 = some x12 := hf1
      unfold f_X3_rebuild_b12 at hf1
      have J62 : ∀ (h8 : aH) (t9 : Int32), f_X3_rebuild_j62 h8 v0 t9 = some x12 → gW p l e (rmO 3 0 0) s m args below meth c (MQ below (eQ D cA B Hb out none) args s 0 0 (fun q => B ≤ q)) D cA B Hb 2 h8 62 [(0, .ref v0), (1, .int t9)] [] 0 0 := by
        intro h8 t9 hf1
        unfold f_X3_rebuild_j62 at hf1
        obtain ⟨t10, e11, hf1⟩ := ob hf1
        refine r_iinc (lv' := [(1, .int t10), (0, .ref v0)]) C dX3_rebuild_62 rfl e11 (by decide) rfl ?_
        refine r_goto (tgt := 12) C dX3_rebuild_65 (by decide) ?_
        obtain rfl := so hf1
        refine r_subk [1, 0] (lv' := [(0, .ref v0), (1, .int t10)]) rfl ?_
        exact ih12 t10 h8 hk12
      refine r_iload_n C dX3_rebuild_12 rfl ?_
      refine r_aload_n C dX3_rebuild_13 rfl ?_
      obtain ⟨t12, e13, hf1⟩ := ob hf1
      refine r_getR C fk_X3_35 rfl dX3_rebuild_14 e13 ?_
      obtain ⟨t14, e15, hf1⟩ := ob hf1
      refine r_getI C fk_X3_60 rfl dX3_rebuild_17 e15 ?_
      refine r_icmp_ge (tgt := 68) C dX3_rebuild_20 (by decide) (fun c16 => ?_) (fun c16 => ?_)
      · rw [if_pos c16] at hf1
        obtain rfl := so hf1
        obtain rfl := so (show some h7 = some y5 from hk12)
        refine r_iconst (v := 0) C dX3_rebuild_68 (by decide) ?_
        refine r_istore_n (lv' := [(1, .int (0 : Int32)), (0, .ref v0)]) C dX3_rebuild_69 (by decide) rfl rfl ?_
        obtain ⟨y17, hl70, hf0⟩ := ob hf0
        have L70 : ∀ (n : Nat) (t18 : Int32) (h19 : aH), whileL n (fun q : Int32 × aH => f_X3_rebuild_b70 v0 q.1 q.2) (t18, h19) = some y17 → gW p l e (rmO 3 0 0) s m args below meth c (MQ below (eQ D cA B Hb out none) args s 0 0 (fun q => B ≤ q)) D cA B Hb 2 h19 70 [(0, .ref v0), (1, .int t18)] [] 0 0 := by
          intro n
          induction n with
          | zero => intro t18 h19 hz; cases hz
          | succ n ih70 =>
            intro t18 h19 hz
            obtain ⟨x70, hf1, hk70⟩ := wl hz
            replace hf1 : f_X3_rebuild_b70 v0 t18 h19 = some x70 := hf1
            unfold f_X3_rebuild_b70 at hf1
            refine r_iload_n C dX3_rebuild_70 rfl ?_
            refine r_aload_n C dX3_rebuild_71 rfl ?_
            obtain ⟨t20, e21, hf1⟩ := ob hf1
            refine r_getR C fk_X3_12 rfl dX3_rebuild_72 e21 ?_
            obtain ⟨t22, e23, hf1⟩ := ob hf1
            refine r_getI C fk_X3_42 rfl dX3_rebuild_75 e23 ?_
            refine r_icmp_ge (tgt := 92) C dX3_rebuild_78 (by decide) (fun c24 => ?_) (fun c24 => ?_)
            · rw [if_pos c24] at hf1
              obtain rfl := so hf1
              obtain rfl := so (show some h19 = some y17 from hk70)
              obtain rfl := so hf0
              exact r_vret C dX3_rebuild_92
            · rw [if_neg c24] at hf1
              refine r_aload_n C dX3_rebuild_81 rfl ?_
              refine r_iload_n C dX3_rebuild_82 rfl ?_
              obtain ⟨u26, e25, hf1⟩ := ob hf1
              obtain ⟨h27, e28, hf1⟩ := ob hf1
              refine r_cV (ci := 3) (rest := []) (st2 := []) C (s_X3_narrow e28) mk_X3_narrow rfl (ck_k e25) (by decide) im_X3_narrow sl_X3_narrow lk_X3_56 rfl rfl rfl dX3_rebuild_83 (Nat.le_of_ble_eq_true rfl) ⟨Nat.le_of_ble_eq_true rfl, Nat.le_of_ble_eq_true rfl⟩ ⟨Nat.le_of_ble_eq_true rfl, Nat.le_of_ble_eq_true rfl⟩ ?_
              obtain ⟨t29, e30, hf1⟩ := ob hf1
              refine r_iinc (lv' := [(1, .int t29), (0, .ref v0)]) C dX3_rebuild_86 rfl e30 (by decide) rfl ?_
              refine r_goto (tgt := 70) C dX3_rebuild_89 (by decide) ?_
              obtain rfl := so hf1
              refine r_subk [1, 0] (lv' := [(0, .ref v0), (1, .int t29)]) rfl ?_
              exact ih70 t29 h27 hk70
        refine r_subk [1, 0] (lv' := [(0, .ref v0), (1, .int (0 : Int32))]) rfl ?_
        exact L70 wN (0 : Int32) h7 hl70
      · rw [if_neg c16] at hf1
        refine r_aload_n C dX3_rebuild_23 rfl ?_
        obtain ⟨t31, e32, hf1⟩ := ob hf1
        refine r_getR C fk_X3_18 rfl dX3_rebuild_24 e32 ?_
        refine r_iload_n C dX3_rebuild_27 rfl ?_
        refine r_ldc (v := 65535) C dX3_rebuild_28 cn_X3_65 ?_
        obtain ⟨h33, e34, hf1⟩ := ob hf1
        refine r_stI C dX3_rebuild_30 e34 ?_
        refine r_aload_n C dX3_rebuild_31 rfl ?_
        obtain ⟨t35, e36, hf1⟩ := ob hf1
        refine r_getR C fk_X3_35 rfl dX3_rebuild_32 e36 ?_
        refine r_iload_n C dX3_rebuild_35 rfl ?_
        obtain ⟨u38, e37, hf1⟩ := ob hf1
        obtain ⟨t39, e40, hf1⟩ := ob hf1
        refine r_cV (ci := 1) (rest := []) (st2 := [.int t39]) C (s_X1_canBe e40) mk_X1_canBe rfl (ck_k e37) (by decide) im_X1_canBe sl_X1_canBe lk_X3_66 rfl rfl rfl dX3_rebuild_36 (Nat.le_of_ble_eq_true rfl) ⟨Nat.le_of_ble_eq_true rfl, Nat.le_of_ble_eq_true rfl⟩ ⟨Nat.le_of_ble_eq_true rfl, Nat.le_of_ble_eq_true rfl⟩ ?_
        refine r_ifeq (tgt := 62) C dX3_rebuild_39 (by decide) (fun c41 => ?_) (fun c41 => ?_)
        · rw [if_pos c41] at hf1
          exact J62 h33 t6 hf1
        · rw [if_neg c41] at hf1
          refine r_aload_n C dX3_rebuild_42 rfl ?_
          obtain ⟨t42, e43, hf1⟩ := ob hf1
          refine r_getR C fk_X3_22 rfl dX3_rebuild_43 e43 ?_
          refine r_aload_n C dX3_rebuild_46 rfl ?_
          obtain ⟨t44, e45, hf1⟩ := ob hf1
          refine r_getI C fk_X3_28 rfl dX3_rebuild_47 e45 ?_
          refine r_iload_n C dX3_rebuild_50 rfl ?_
          obtain ⟨h46, e47, hf1⟩ := ob hf1
          refine r_stI C dX3_rebuild_51 e47 ?_
          refine r_aload_n C dX3_rebuild_52 rfl ?_
          refine r_dup C dX3_rebuild_53 rfl ?_
          obtain ⟨t48, e49, hf1⟩ := ob hf1
          refine r_getI C fk_X3_28 rfl dX3_rebuild_54 e49 ?_
          refine r_iconst (v := 1) C dX3_rebuild_57 (by decide) ?_
          refine r_iadd C dX3_rebuild_58 ?_
          obtain ⟨h50, e51, hf1⟩ := ob hf1
          refine r_putI C fk_X3_28 dX3_rebuild_59 e51 ?_
          exact J62 h50 t6 hf1
  refine r_subk [1, 0] (lv' := [(0, .ref v0), (1, .int (0 : Int32))]) rfl ?_
  exact L12 wN (0 : Int32) h3 hl12
def f_X3_init (h : aH) (v0 : Nat) (v1 : Nat) : Option (aH) := bd2 (nwO h 6 6) fun t1 h2 => (f_X6_init h2 t1).bind fun h3 => (pR h3 3 v0 0 t1).bind fun h4 => bd2 (nwO h4 20 256) fun t5 h6 => (pR h6 3 v0 1 t5).bind fun h7 => bd2 (nwO h7 20 256) fun t8 h9 => (pR h9 3 v0 2 t8).bind fun h10 => bd2 (nwO h10 20 24) fun t11 h12 => (pR h12 3 v0 3 t11).bind fun h13 => (pI h13 3 v0 5 (0 : Int32)).bind fun h14 => (pI h14 3 v0 6 (0 : Int32)).bind fun h15 => (pR h15 3 v0 4 v1).bind fun h16 => (ck h16 3 v0).bind fun _ => (f_X3_rebuild h16 v0).bind fun h17 => some h17
theorem s_X3_init {h : aH} {v0 : Nat} {v1 : Nat} {out : aH} (hf0 : f_X3_init h v0 v1 = some out) : EV 4 yX3_init cX3_init 2 none h [.ref v0, .ref v1] none out 8 590 := by
  refine EV.of (own := RX3) (lv0 := [(0, .ref v0), (1, .ref v1)]) (by decide +kernel) rfl rfl (Nat.le_of_ble_eq_true rfl) ?_
  intro p l e s m args below meth c D cA B Hb C hin
  unfold f_X3_init at hf0
  refine r_aload_n C dX3_init_0 rfl ?_
  refine r_obj C lk_X3_3 dX3_init_1 ⟨Nat.le_of_ble_eq_true rfl, Nat.le_of_ble_eq_true rfl⟩ (Nat.le_of_ble_eq_true rfl) ?_
  refine r_aload_n C dX3_init_4 rfl ?_
  obtain ⟨t1, h2, e3, hf0⟩ := ob2 hf0
  refine r_newE C nk_X3_9 dX3_init_5 ⟨Nat.le_of_ble_eq_true rfl, Nat.le_of_ble_eq_true rfl⟩ e3 ?_
  refine r_dup C dX3_init_8 rfl ?_
  obtain ⟨h4, e5, hf0⟩ := ob hf0
  refine r_callIN (rest := [.ref t1, .ref v0]) C (s_X6_init e5) mk_X6_init rfl im_X6_init ln_X3_11 rfl rfl dX3_init_9 (Nat.le_of_ble_eq_true rfl) ⟨Nat.le_of_ble_eq_true rfl, Nat.le_of_ble_eq_true rfl⟩ ⟨Nat.le_of_ble_eq_true rfl, Nat.le_of_ble_eq_true rfl⟩ ?_
  obtain ⟨h6, e7, hf0⟩ := ob hf0
  refine r_putFR C fk_X3_12 ⟨_, _, rfl⟩ (Or.inl ⟨_, rfl⟩) hin dX3_init_12 e7 ?_
  refine r_aload_n C dX3_init_15 rfl ?_
  refine r_sipush (v := 256) C dX3_init_16 (by decide) ?_
  obtain ⟨t8, h9, e10, hf0⟩ := ob2 hf0
  refine r_newIE C dX3_init_19 (by decide) (by decide) (by decide) ⟨Nat.le_of_ble_eq_true rfl, Nat.le_of_ble_eq_true rfl⟩ e10 ?_
  obtain ⟨h11, e12, hf0⟩ := ob hf0
  refine r_putFR C fk_X3_18 ⟨_, _, rfl⟩ (Or.inr ⟨_, rfl⟩) hin dX3_init_21 e12 ?_
  refine r_aload_n C dX3_init_24 rfl ?_
  refine r_sipush (v := 256) C dX3_init_25 (by decide) ?_
  obtain ⟨t13, h14, e15, hf0⟩ := ob2 hf0
  refine r_newIE C dX3_init_28 (by decide) (by decide) (by decide) ⟨Nat.le_of_ble_eq_true rfl, Nat.le_of_ble_eq_true rfl⟩ e15 ?_
  obtain ⟨h16, e17, hf0⟩ := ob hf0
  refine r_putFR C fk_X3_22 ⟨_, _, rfl⟩ (Or.inr ⟨_, rfl⟩) hin dX3_init_30 e17 ?_
  refine r_aload_n C dX3_init_33 rfl ?_
  refine r_bipush (v := 24) C dX3_init_34 (by decide) ?_
  obtain ⟨t18, h19, e20, hf0⟩ := ob2 hf0
  refine r_newIE C dX3_init_36 (by decide) (by decide) (by decide) ⟨Nat.le_of_ble_eq_true rfl, Nat.le_of_ble_eq_true rfl⟩ e20 ?_
  obtain ⟨h21, e22, hf0⟩ := ob hf0
  refine r_putFR C fk_X3_25 ⟨_, _, rfl⟩ (Or.inr ⟨_, rfl⟩) hin dX3_init_38 e22 ?_
  refine r_aload_n C dX3_init_41 rfl ?_
  refine r_iconst (v := 0) C dX3_init_42 (by decide) ?_
  obtain ⟨h23, e24, hf0⟩ := ob hf0
  refine r_putI C fk_X3_28 dX3_init_43 e24 ?_
  refine r_aload_n C dX3_init_46 rfl ?_
  refine r_iconst (v := 0) C dX3_init_47 (by decide) ?_
  obtain ⟨h25, e26, hf0⟩ := ob hf0
  refine r_putI C fk_X3_32 dX3_init_48 e26 ?_
  refine r_aload_n C dX3_init_51 rfl ?_
  refine r_aload_n C dX3_init_52 rfl ?_
  obtain ⟨h27, e28, hf0⟩ := ob hf0
  refine r_putR C fk_X3_35 (Or.inl ⟨_, rfl⟩) dX3_init_53 e28 ?_
  refine r_aload_n C dX3_init_56 rfl ?_
  obtain ⟨u30, e29, hf0⟩ := ob hf0
  obtain ⟨h31, e32, hf0⟩ := ob hf0
  refine r_cV (ci := 3) (rest := []) (st2 := []) C (s_X3_rebuild e32) mk_X3_rebuild rfl (ck_k e29) (by decide) im_X3_rebuild sl_X3_rebuild lk_X3_39 rfl rfl rfl dX3_init_57 (Nat.le_of_ble_eq_true rfl) ⟨Nat.le_of_ble_eq_true rfl, Nat.le_of_ble_eq_true rfl⟩ ⟨Nat.le_of_ble_eq_true rfl, Nat.le_of_ble_eq_true rfl⟩ ?_
  obtain rfl := so hf0
  exact r_vret C dX3_init_60
def f_X3_begin (h : aH) (v0 : Nat) (v1 : Nat) : Option (aH) := (pR h 3 v0 4 v1).bind fun h1 => (gR h1 3 v0 0).bind fun t2 => (pI h1 6 t2 4 (0 : Int32)).bind fun h3 => (gR h3 3 v0 0).bind fun t4 => (pI h3 6 t4 5 (0 : Int32)).bind fun h5 => (ck h5 3 v0).bind fun _ => (f_X3_rebuild h5 v0).bind fun h6 => some h6
theorem s_X3_begin {h : aH} {v0 : Nat} {v1 : Nat} {out : aH} (hf0 : f_X3_begin h v0 v1 = some out) : EV 4 yX3_begin cX3_begin 2 none h [.ref v0, .ref v1] none out 0 0 := by
  refine EV.of (own := RX3) (lv0 := [(0, .ref v0), (1, .ref v1)]) (by decide +kernel) rfl rfl (Nat.le_of_ble_eq_true rfl) ?_
  intro p l e s m args below meth c D cA B Hb C hin
  unfold f_X3_begin at hf0
  refine r_aload_n C dX3_begin_0 rfl ?_
  refine r_aload_n C dX3_begin_1 rfl ?_
  obtain ⟨h1, e2, hf0⟩ := ob hf0
  refine r_putR C fk_X3_35 (Or.inl ⟨_, rfl⟩) dX3_begin_2 e2 ?_
  refine r_aload_n C dX3_begin_5 rfl ?_
  obtain ⟨t3, e4, hf0⟩ := ob hf0
  refine r_getR C fk_X3_12 rfl dX3_begin_6 e4 ?_
  refine r_iconst (v := 0) C dX3_begin_9 (by decide) ?_
  obtain ⟨h5, e6, hf0⟩ := ob hf0
  refine r_putI C fk_X3_42 dX3_begin_10 e6 ?_
  refine r_aload_n C dX3_begin_13 rfl ?_
  obtain ⟨t7, e8, hf0⟩ := ob hf0
  refine r_getR C fk_X3_12 rfl dX3_begin_14 e8 ?_
  refine r_iconst (v := 0) C dX3_begin_17 (by decide) ?_
  obtain ⟨h9, e10, hf0⟩ := ob hf0
  refine r_putI C fk_X3_45 dX3_begin_18 e10 ?_
  refine r_aload_n C dX3_begin_21 rfl ?_
  obtain ⟨u12, e11, hf0⟩ := ob hf0
  obtain ⟨h13, e14, hf0⟩ := ob hf0
  refine r_cV (ci := 3) (rest := []) (st2 := []) C (s_X3_rebuild e14) mk_X3_rebuild rfl (ck_k e11) (by decide) im_X3_rebuild sl_X3_rebuild lk_X3_39 rfl rfl rfl dX3_begin_22 (Nat.le_of_ble_eq_true rfl) ⟨Nat.le_of_ble_eq_true rfl, Nat.le_of_ble_eq_true rfl⟩ ⟨Nat.le_of_ble_eq_true rfl, Nat.le_of_ble_eq_true rfl⟩ ?_
  obtain rfl := so hf0
  exact r_vret C dX3_begin_25
def f_X6_copyFrom (h : aH) (v0 : Nat) (v1 : Nat) : Option (aH) := (gR h 6 v1 0).bind fun t1 => (gR h 6 v0 0).bind fun t2 => (cpI h t1 (0 : Int32) t2 (0 : Int32) (12 : Int32)).bind fun h3 => (gR h3 6 v1 1).bind fun t4 => (gR h3 6 v0 1).bind fun t5 => (cpI h3 t4 (0 : Int32) t5 (0 : Int32) (12 : Int32)).bind fun h6 => (gR h6 6 v1 2).bind fun t7 => (gR h6 6 v0 2).bind fun t8 => (cpI h6 t7 (0 : Int32) t8 (0 : Int32) (12 : Int32)).bind fun h9 => (gR h9 6 v1 3).bind fun t10 => (gR h9 6 v0 3).bind fun t11 => (cpI h9 t10 (0 : Int32) t11 (0 : Int32) (12 : Int32)).bind fun h12 => (gI h12 6 v1 4).bind fun t13 => (pI h12 6 v0 4 t13).bind fun h14 => (gI h14 6 v1 5).bind fun t15 => (pI h14 6 v0 5 t15).bind fun h16 => some h16
theorem s_X6_copyFrom {h : aH} {v0 : Nat} {v1 : Nat} {out : aH} (hf0 : f_X6_copyFrom h v0 v1 = some out) : EV 1 yX6_copyFrom cX6_copyFrom 2 none h [.ref v0, .ref v1] none out 0 0 := by
  refine EV.of (own := RX6) (lv0 := [(0, .ref v0), (1, .ref v1)]) (by decide +kernel) rfl rfl (Nat.le_of_ble_eq_true rfl) ?_
  intro p l e s m args below meth c D cA B Hb C hin
  unfold f_X6_copyFrom at hf0
  refine r_aload_n C dX6_copyFrom_0 rfl ?_
  obtain ⟨t1, e2, hf0⟩ := ob hf0
  refine r_getR C fk_X6_9 rfl dX6_copyFrom_1 e2 ?_
  refine r_iconst (v := 0) C dX6_copyFrom_4 (by decide) ?_
  refine r_aload_n C dX6_copyFrom_5 rfl ?_
  obtain ⟨t3, e4, hf0⟩ := ob hf0
  refine r_getR C fk_X6_9 rfl dX6_copyFrom_6 e4 ?_
  refine r_iconst (v := 0) C dX6_copyFrom_9 (by decide) ?_
  refine r_bipush (v := 12) C dX6_copyFrom_10 (by decide) ?_
  obtain ⟨h5, e6, hf0⟩ := ob hf0
  refine r_cpI C lk_X6_31 dX6_copyFrom_12 ⟨Nat.le_of_ble_eq_true rfl, Nat.le_of_ble_eq_true rfl⟩ (by decide) e6 ?_
  refine r_aload_n C dX6_copyFrom_15 rfl ?_
  obtain ⟨t7, e8, hf0⟩ := ob hf0
  refine r_getR C fk_X6_15 rfl dX6_copyFrom_16 e8 ?_
  refine r_iconst (v := 0) C dX6_copyFrom_19 (by decide) ?_
  refine r_aload_n C dX6_copyFrom_20 rfl ?_
  obtain ⟨t9, e10, hf0⟩ := ob hf0
  refine r_getR C fk_X6_15 rfl dX6_copyFrom_21 e10 ?_
  refine r_iconst (v := 0) C dX6_copyFrom_24 (by decide) ?_
  refine r_bipush (v := 12) C dX6_copyFrom_25 (by decide) ?_
  obtain ⟨h11, e12, hf0⟩ := ob hf0
  refine r_cpI C lk_X6_31 dX6_copyFrom_27 ⟨Nat.le_of_ble_eq_true rfl, Nat.le_of_ble_eq_true rfl⟩ (by decide) e12 ?_
  refine r_aload_n C dX6_copyFrom_30 rfl ?_
  obtain ⟨t13, e14, hf0⟩ := ob hf0
  refine r_getR C fk_X6_18 rfl dX6_copyFrom_31 e14 ?_
  refine r_iconst (v := 0) C dX6_copyFrom_34 (by decide) ?_
  refine r_aload_n C dX6_copyFrom_35 rfl ?_
  obtain ⟨t15, e16, hf0⟩ := ob hf0
  refine r_getR C fk_X6_18 rfl dX6_copyFrom_36 e16 ?_
  refine r_iconst (v := 0) C dX6_copyFrom_39 (by decide) ?_
  refine r_bipush (v := 12) C dX6_copyFrom_40 (by decide) ?_
  obtain ⟨h17, e18, hf0⟩ := ob hf0
  refine r_cpI C lk_X6_31 dX6_copyFrom_42 ⟨Nat.le_of_ble_eq_true rfl, Nat.le_of_ble_eq_true rfl⟩ (by decide) e18 ?_
  refine r_aload_n C dX6_copyFrom_45 rfl ?_
  obtain ⟨t19, e20, hf0⟩ := ob hf0
  refine r_getR C fk_X6_21 rfl dX6_copyFrom_46 e20 ?_
  refine r_iconst (v := 0) C dX6_copyFrom_49 (by decide) ?_
  refine r_aload_n C dX6_copyFrom_50 rfl ?_
  obtain ⟨t21, e22, hf0⟩ := ob hf0
  refine r_getR C fk_X6_21 rfl dX6_copyFrom_51 e22 ?_
  refine r_iconst (v := 0) C dX6_copyFrom_54 (by decide) ?_
  refine r_bipush (v := 12) C dX6_copyFrom_55 (by decide) ?_
  obtain ⟨h23, e24, hf0⟩ := ob hf0
  refine r_cpI C lk_X6_31 dX6_copyFrom_57 ⟨Nat.le_of_ble_eq_true rfl, Nat.le_of_ble_eq_true rfl⟩ (by decide) e24 ?_
  refine r_aload_n C dX6_copyFrom_60 rfl ?_
  refine r_aload_n C dX6_copyFrom_61 rfl ?_
  obtain ⟨t25, e26, hf0⟩ := ob hf0
  refine r_getI C fk_X6_24 rfl dX6_copyFrom_62 e26 ?_
  obtain ⟨h27, e28, hf0⟩ := ob hf0
  refine r_putI C fk_X6_24 dX6_copyFrom_65 e28 ?_
  refine r_aload_n C dX6_copyFrom_68 rfl ?_
  refine r_aload_n C dX6_copyFrom_69 rfl ?_
  obtain ⟨t29, e30, hf0⟩ := ob hf0
  refine r_getI C fk_X6_28 rfl dX6_copyFrom_70 e30 ?_
  obtain ⟨h31, e32, hf0⟩ := ob hf0
  refine r_putI C fk_X6_28 dX6_copyFrom_73 e32 ?_
  obtain rfl := so hf0
  exact r_vret C dX6_copyFrom_76
def f_X3_resume (h : aH) (v0 : Nat) (v1 : Nat) (v2 : Nat) : Option (aH) := (pR h 3 v0 4 v1).bind fun h1 => (gR h1 3 v0 0).bind fun t2 => (ck h1 6 t2).bind fun _ => (f_X6_copyFrom h1 t2 v2).bind fun h3 => (ck h3 3 v0).bind fun _ => (f_X3_rebuild h3 v0).bind fun h4 => some h4
theorem s_X3_resume {h : aH} {v0 : Nat} {v1 : Nat} {v2 : Nat} {out : aH} (hf0 : f_X3_resume h v0 v1 v2 = some out) : EV 4 yX3_resume cX3_resume 3 none h [.ref v0, .ref v1, .ref v2] none out 0 0 := by
  refine EV.of (own := RX3) (lv0 := [(0, .ref v0), (1, .ref v1), (2, .ref v2)]) (by decide +kernel) rfl rfl (Nat.le_of_ble_eq_true rfl) ?_
  intro p l e s m args below meth c D cA B Hb C hin
  unfold f_X3_resume at hf0
  refine r_aload_n C dX3_resume_0 rfl ?_
  refine r_aload_n C dX3_resume_1 rfl ?_
  obtain ⟨h1, e2, hf0⟩ := ob hf0
  refine r_putR C fk_X3_35 (Or.inl ⟨_, rfl⟩) dX3_resume_2 e2 ?_
  refine r_aload_n C dX3_resume_5 rfl ?_
  obtain ⟨t3, e4, hf0⟩ := ob hf0
  refine r_getR C fk_X3_12 rfl dX3_resume_6 e4 ?_
  refine r_aload_n C dX3_resume_9 rfl ?_
  obtain ⟨u6, e5, hf0⟩ := ob hf0
  obtain ⟨h7, e8, hf0⟩ := ob hf0
  refine r_cV (ci := 6) (rest := []) (st2 := []) C (s_X6_copyFrom e8) mk_X6_copyFrom rfl (ck_k e5) (by decide) im_X6_copyFrom sl_X6_copyFrom lk_X3_48 rfl rfl rfl dX3_resume_10 (Nat.le_of_ble_eq_true rfl) ⟨Nat.le_of_ble_eq_true rfl, Nat.le_of_ble_eq_true rfl⟩ ⟨Nat.le_of_ble_eq_true rfl, Nat.le_of_ble_eq_true rfl⟩ ?_
  refine r_aload_n C dX3_resume_13 rfl ?_
  obtain ⟨u10, e9, hf0⟩ := ob hf0
  obtain ⟨h11, e12, hf0⟩ := ob hf0
  refine r_cV (ci := 3) (rest := []) (st2 := []) C (s_X3_rebuild e12) mk_X3_rebuild rfl (ck_k e9) (by decide) im_X3_rebuild sl_X3_rebuild lk_X3_39 rfl rfl rfl dX3_resume_14 (Nat.le_of_ble_eq_true rfl) ⟨Nat.le_of_ble_eq_true rfl, Nat.le_of_ble_eq_true rfl⟩ ⟨Nat.le_of_ble_eq_true rfl, Nat.le_of_ble_eq_true rfl⟩ ?_
  obtain rfl := so hf0
  exact r_vret C dX3_resume_17
def f_X6_add (h : aH) (v0 : Nat) (v1 : Int32) (v2 : Int32) (v3 : Int32) : Option (aH) := (gI h 6 v0 4).bind fun t1 => if (12 : Int32) ≤ t1 then some h else (gR h 6 v0 0).bind fun t2 => (gI h 6 v0 4).bind fun t3 => (sI h t2 t3 v1).bind fun h4 => (gR h4 6 v0 1).bind fun t5 => (gI h4 6 v0 4).bind fun t6 => (sI h4 t5 t6 v2).bind fun h7 => (gR h7 6 v0 2).bind fun t8 => (gI h7 6 v0 4).bind fun t9 => (sI h7 t8 t9 v3).bind fun h10 => (gR h10 6 v0 3).bind fun t11 => (gI h10 6 v0 4).bind fun t12 => (gI h10 6 v0 5).bind fun t13 => (sI h10 t11 t12 t13).bind fun h14 => (gI h14 6 v0 4).bind fun t15 => (pI h14 6 v0 4 (t15 + (1 : Int32))).bind fun h16 => some h16
theorem s_X6_add {h : aH} {v0 : Nat} {v1 : Int32} {v2 : Int32} {v3 : Int32} {out : aH} (hf0 : f_X6_add h v0 v1 v2 v3 = some out) : EV 0 yX6_add cX6_add 4 none h [.ref v0, .int v1, .int v2, .int v3] none out 0 0 := by
  refine EV.of (own := RX6) (lv0 := [(0, .ref v0), (1, .int v1), (2, .int v2), (3, .int v3)]) (by decide +kernel) rfl rfl (Nat.le_of_ble_eq_true rfl) ?_
  intro p l e s m args below meth c D cA B Hb C hin
  unfold f_X6_add at hf0
  refine r_aload_n C dX6_add_0 rfl ?_
  obtain ⟨t1, e2, hf0⟩ := ob hf0
  refine r_getI C fk_X6_24 rfl dX6_add_1 e2 ?_
  refine r_bipush (v := 12) C dX6_add_4 (by decide) ?_
  refine r_icmp_ge (tgt := 62) C dX6_add_6 (by decide) (fun c3 => ?_) (fun c3 => ?_)
  · rw [if_pos c3] at hf0
    obtain rfl := so hf0
    exact r_vret C dX6_add_62
  · rw [if_neg c3] at hf0
    refine r_aload_n C dX6_add_9 rfl ?_
    obtain ⟨t4, e5, hf0⟩ := ob hf0
    refine r_getR C fk_X6_9 rfl dX6_add_10 e5 ?_
    refine r_aload_n C dX6_add_13 rfl ?_
    obtain ⟨t6, e7, hf0⟩ := ob hf0
    refine r_getI C fk_X6_24 rfl dX6_add_14 e7 ?_
    refine r_iload_n C dX6_add_17 rfl ?_
    obtain ⟨h8, e9, hf0⟩ := ob hf0
    refine r_stI C dX6_add_18 e9 ?_
    refine r_aload_n C dX6_add_19 rfl ?_
    obtain ⟨t10, e11, hf0⟩ := ob hf0
    refine r_getR C fk_X6_15 rfl dX6_add_20 e11 ?_
    refine r_aload_n C dX6_add_23 rfl ?_
    obtain ⟨t12, e13, hf0⟩ := ob hf0
    refine r_getI C fk_X6_24 rfl dX6_add_24 e13 ?_
    refine r_iload_n C dX6_add_27 rfl ?_
    obtain ⟨h14, e15, hf0⟩ := ob hf0
    refine r_stI C dX6_add_28 e15 ?_
    refine r_aload_n C dX6_add_29 rfl ?_
    obtain ⟨t16, e17, hf0⟩ := ob hf0
    refine r_getR C fk_X6_18 rfl dX6_add_30 e17 ?_
    refine r_aload_n C dX6_add_33 rfl ?_
    obtain ⟨t18, e19, hf0⟩ := ob hf0
    refine r_getI C fk_X6_24 rfl dX6_add_34 e19 ?_
    refine r_iload_n C dX6_add_37 rfl ?_
    obtain ⟨h20, e21, hf0⟩ := ob hf0
    refine r_stI C dX6_add_38 e21 ?_
    refine r_aload_n C dX6_add_39 rfl ?_
    obtain ⟨t22, e23, hf0⟩ := ob hf0
    refine r_getR C fk_X6_21 rfl dX6_add_40 e23 ?_
    refine r_aload_n C dX6_add_43 rfl ?_
    obtain ⟨t24, e25, hf0⟩ := ob hf0
    refine r_getI C fk_X6_24 rfl dX6_add_44 e25 ?_
    refine r_aload_n C dX6_add_47 rfl ?_
    obtain ⟨t26, e27, hf0⟩ := ob hf0
    refine r_getI C fk_X6_28 rfl dX6_add_48 e27 ?_
    obtain ⟨h28, e29, hf0⟩ := ob hf0
    refine r_stI C dX6_add_51 e29 ?_
    refine r_aload_n C dX6_add_52 rfl ?_
    refine r_dup C dX6_add_53 rfl ?_
    obtain ⟨t30, e31, hf0⟩ := ob hf0
    refine r_getI C fk_X6_24 rfl dX6_add_54 e31 ?_
    refine r_iconst (v := 1) C dX6_add_57 (by decide) ?_
    refine r_iadd C dX6_add_58 ?_
    obtain ⟨h32, e33, hf0⟩ := ob hf0
    refine r_putI C fk_X6_24 dX6_add_59 e33 ?_
    obtain rfl := so hf0
    exact r_vret C dX6_add_62
def f_X3_enter (h : aH) (v0 : Nat) (v1 : Int32) (v2 : Int32) (v3 : Int32) : Option (aH) := (gR h 3 v0 0).bind fun t1 => (ck h 6 t1).bind fun _ => (f_X6_add h t1 v1 v2 v3).bind fun h2 => (gR h2 3 v0 0).bind fun t3 => (gI h2 6 t3 4).bind fun t4 => (ck h2 3 v0).bind fun _ => (f_X3_narrow h2 v0 (t4 - (1 : Int32))).bind fun h5 => some h5
theorem s_X3_enter {h : aH} {v0 : Nat} {v1 : Int32} {v2 : Int32} {v3 : Int32} {out : aH} (hf0 : f_X3_enter h v0 v1 v2 v3 = some out) : EV 3 yX3_enter cX3_enter 4 none h [.ref v0, .int v1, .int v2, .int v3] none out 0 0 := by
  refine EV.of (own := RX3) (lv0 := [(0, .ref v0), (1, .int v1), (2, .int v2), (3, .int v3)]) (by decide +kernel) rfl rfl (Nat.le_of_ble_eq_true rfl) ?_
  intro p l e s m args below meth c D cA B Hb C hin
  unfold f_X3_enter at hf0
  refine r_aload_n C dX3_enter_0 rfl ?_
  obtain ⟨t1, e2, hf0⟩ := ob hf0
  refine r_getR C fk_X3_12 rfl dX3_enter_1 e2 ?_
  refine r_iload_n C dX3_enter_4 rfl ?_
  refine r_iload_n C dX3_enter_5 rfl ?_
  refine r_iload_n C dX3_enter_6 rfl ?_
  obtain ⟨u4, e3, hf0⟩ := ob hf0
  obtain ⟨h5, e6, hf0⟩ := ob hf0
  refine r_cV (ci := 6) (rest := []) (st2 := []) C (s_X6_add e6) mk_X6_add rfl (ck_k e3) (by decide) im_X6_add sl_X6_add lk_X3_52 rfl rfl rfl dX3_enter_7 (Nat.le_of_ble_eq_true rfl) ⟨Nat.le_of_ble_eq_true rfl, Nat.le_of_ble_eq_true rfl⟩ ⟨Nat.le_of_ble_eq_true rfl, Nat.le_of_ble_eq_true rfl⟩ ?_
  refine r_aload_n C dX3_enter_10 rfl ?_
  refine r_aload_n C dX3_enter_11 rfl ?_
  obtain ⟨t7, e8, hf0⟩ := ob hf0
  refine r_getR C fk_X3_12 rfl dX3_enter_12 e8 ?_
  obtain ⟨t9, e10, hf0⟩ := ob hf0
  refine r_getI C fk_X3_42 rfl dX3_enter_15 e10 ?_
  refine r_iconst (v := 1) C dX3_enter_18 (by decide) ?_
  refine r_isub C dX3_enter_19 ?_
  obtain ⟨u12, e11, hf0⟩ := ob hf0
  obtain ⟨h13, e14, hf0⟩ := ob hf0
  refine r_cV (ci := 3) (rest := []) (st2 := []) C (s_X3_narrow e14) mk_X3_narrow rfl (ck_k e11) (by decide) im_X3_narrow sl_X3_narrow lk_X3_56 rfl rfl rfl dX3_enter_20 (Nat.le_of_ble_eq_true rfl) ⟨Nat.le_of_ble_eq_true rfl, Nat.le_of_ble_eq_true rfl⟩ ⟨Nat.le_of_ble_eq_true rfl, Nat.le_of_ble_eq_true rfl⟩ ?_
  obtain rfl := so hf0
  exact r_vret C dX3_enter_23
def f_X3_strike (h : aH) (v0 : Nat) : Option (aH) := (gR h 3 v0 0).bind fun t1 => (gI h 6 t1 4).bind fun t2 => (pI h 6 t1 4 (t2 - (1 : Int32))).bind fun h3 => (ck h3 3 v0).bind fun _ => (f_X3_rebuild h3 v0).bind fun h4 => some h4
theorem s_X3_strike {h : aH} {v0 : Nat} {out : aH} (hf0 : f_X3_strike h v0 = some out) : EV 4 yX3_strike cX3_strike 1 none h [.ref v0] none out 0 0 := by
  refine EV.of (own := RX3) (lv0 := [(0, .ref v0)]) (by decide +kernel) rfl rfl (Nat.le_of_ble_eq_true rfl) ?_
  intro p l e s m args below meth c D cA B Hb C hin
  unfold f_X3_strike at hf0
  refine r_aload_n C dX3_strike_0 rfl ?_
  obtain ⟨t1, e2, hf0⟩ := ob hf0
  refine r_getR C fk_X3_12 rfl dX3_strike_1 e2 ?_
  refine r_dup C dX3_strike_4 rfl ?_
  obtain ⟨t3, e4, hf0⟩ := ob hf0
  refine r_getI C fk_X3_42 rfl dX3_strike_5 e4 ?_
  refine r_iconst (v := 1) C dX3_strike_8 (by decide) ?_
  refine r_isub C dX3_strike_9 ?_
  obtain ⟨h5, e6, hf0⟩ := ob hf0
  refine r_putI C fk_X3_42 dX3_strike_10 e6 ?_
  refine r_aload_n C dX3_strike_13 rfl ?_
  obtain ⟨u8, e7, hf0⟩ := ob hf0
  obtain ⟨h9, e10, hf0⟩ := ob hf0
  refine r_cV (ci := 3) (rest := []) (st2 := []) C (s_X3_rebuild e10) mk_X3_rebuild rfl (ck_k e7) (by decide) im_X3_rebuild sl_X3_rebuild lk_X3_39 rfl rfl rfl dX3_strike_14 (Nat.le_of_ble_eq_true rfl) ⟨Nat.le_of_ble_eq_true rfl, Nat.le_of_ble_eq_true rfl⟩ ⟨Nat.le_of_ble_eq_true rfl, Nat.le_of_ble_eq_true rfl⟩ ?_
  obtain rfl := so hf0
  exact r_vret C dX3_strike_17
def f_X3_lives_b2 (h : aH) (v0 : Nat) (v1 : Int32) (v2 : Int32) : Option ((Int32) ⊕ ((Unit) ⊕ (Unit))) := (gI h 3 v0 5).bind fun t1 => if t1 ≤ v2 then some (.inr (.inr ())) else (gR h 3 v0 2).bind fun t2 => (lI h t2 v2).bind fun t3 => if t3 = v1 then some (.inr (.inl ())) else (some (v2 + (1 : Int32))).bind fun t4 => some (.inl t4)
def f_X3_lives_l2 (h : aH) (v0 : Nat) (v1 : Int32) (v2 : Int32) : Option ((Unit) ⊕ (Unit)) := whileL wN (fun q : Int32 => f_X3_lives_b2 h v0 v1 q) v2
def f_X3_lives (h : aH) (v0 : Nat) (v1 : Int32) : Option (Int32) := (f_X3_lives_l2 h v0 v1 (0 : Int32)).bind fun e => match e with | .inl _ => some (1 : Int32) | .inr _ => some (0 : Int32)
theorem s_X3_lives {h : aH} {v0 : Nat} {v1 : Int32} {out : Int32} (hf0 : f_X3_lives h v0 v1 = some out) : EV 0 yX3_lives cX3_lives 3 (some .boolean) h [.ref v0, .int v1] (some (.int out)) h 0 0 := by
  refine EV.of (own := RX3) (lv0 := [(0, .ref v0), (1, .int v1)]) (by decide +kernel) rfl rfl (Nat.le_of_ble_eq_true rfl) ?_
  intro p l e s m args below meth c D cA B Hb C hin
  unfold f_X3_lives at hf0
  refine r_iconst (v := 0) C dX3_lives_0 (by decide) ?_
  refine r_istore_n (lv' := [(2, .int (0 : Int32)), (0, .ref v0), (1, .int v1)]) C dX3_lives_1 (by decide) rfl rfl ?_
  obtain ⟨y1, hl2, hf0⟩ := ob hf0
  have L2 : ∀ (n : Nat) (t2 : Int32), whileL n (fun q : Int32 => f_X3_lives_b2 h v0 v1 q) t2 = some y1 → gW p l e (rmO 0 0 0) s m args below meth c (MQ below (eQ D cA B Hb h (some (.int out))) args s 0 0 (fun q => B ≤ q)) D cA B Hb 3 h 2 [(0, .ref v0), (1, .int v1), (2, .int t2)] [] 0 0 := by
    intro n
    induction n with
    | zero => intro t2 hz; cases hz
    | succ n ih2 =>
      intro t2 hz
      obtain ⟨x2, hf1, hk2⟩ := wl hz
      replace hf1 : f_X3_lives_b2 h v0 v1 t2 = some x2 := hf1
      unfold f_X3_lives_b2 at hf1
      refine r_iload_n C dX3_lives_2 rfl ?_
      refine r_aload_n C dX3_lives_3 rfl ?_
      obtain ⟨t3, e4, hf1⟩ := ob hf1
      refine r_getI C fk_X3_28 rfl dX3_lives_4 e4 ?_
      refine r_icmp_ge (tgt := 28) C dX3_lives_7 (by decide) (fun c5 => ?_) (fun c5 => ?_)
      · rw [if_pos c5] at hf1
        obtain rfl := so hf1
        obtain rfl := so (show some (.inr () : (Unit) ⊕ (Unit)) = some y1 from hk2)
        dsimp only at hf0
        refine r_iconst (v := 0) C dX3_lives_28 (by decide) ?_
        obtain rfl := so hf0
        exact r_zret C dX3_lives_29 (Or.inl rfl)
      · rw [if_neg c5] at hf1
        refine r_aload_n C dX3_lives_10 rfl ?_
        obtain ⟨t6, e7, hf1⟩ := ob hf1
        refine r_getR C fk_X3_22 rfl dX3_lives_11 e7 ?_
        refine r_iload_n C dX3_lives_14 rfl ?_
        obtain ⟨t8, e9, hf1⟩ := ob hf1
        refine r_ldI C dX3_lives_15 e9 ?_
        refine r_iload_n C dX3_lives_16 rfl ?_
        refine r_icmp_ne (tgt := 22) C dX3_lives_17 (by decide) (fun c10 => ?_) (fun c10 => ?_)
        · rw [if_neg c10] at hf1
          obtain ⟨t11, e12, hf1⟩ := ob hf1
          refine r_iinc (lv' := [(2, .int t11), (0, .ref v0), (1, .int v1)]) C dX3_lives_22 rfl e12 (by decide) rfl ?_
          refine r_goto (tgt := 2) C dX3_lives_25 (by decide) ?_
          obtain rfl := so hf1
          refine r_subk [1, 2, 0] (lv' := [(0, .ref v0), (1, .int v1), (2, .int t11)]) rfl ?_
          exact ih2 t11 hk2
        · rw [if_pos c10] at hf1
          obtain rfl := so hf1
          obtain rfl := so (show some (.inl () : (Unit) ⊕ (Unit)) = some y1 from hk2)
          dsimp only at hf0
          refine r_iconst (v := 1) C dX3_lives_20 (by decide) ?_
          obtain rfl := so hf0
          exact r_zret C dX3_lives_21 (Or.inr rfl)
  refine r_subk [1, 2, 0] (lv' := [(0, .ref v0), (1, .int v1), (2, .int (0 : Int32))]) rfl ?_
  exact L2 wN (0 : Int32) hl2
def f_X3_wasPut (h : aH) (v0 : Nat) (v1 : Int32) : Option (Int32) := (gI h 3 v0 6).bind fun t1 => if ((t1 >>> (v1 &&& 31)) &&& (1 : Int32)) = 0 then some (0 : Int32) else some (1 : Int32)
theorem s_X3_wasPut {h : aH} {v0 : Nat} {v1 : Int32} {out : Int32} (hf0 : f_X3_wasPut h v0 v1 = some out) : EV 0 yX3_wasPut cX3_wasPut 2 (some .boolean) h [.ref v0, .int v1] (some (.int out)) h 0 0 := by
  refine EV.of (own := RX3) (lv0 := [(0, .ref v0), (1, .int v1)]) (by decide +kernel) rfl rfl (Nat.le_of_ble_eq_true rfl) ?_
  intro p l e s m args below meth c D cA B Hb C hin
  unfold f_X3_wasPut at hf0
  refine r_aload_n C dX3_wasPut_0 rfl ?_
  obtain ⟨t1, e2, hf0⟩ := ob hf0
  refine r_getI C fk_X3_32 rfl dX3_wasPut_1 e2 ?_
  refine r_iload_n C dX3_wasPut_4 rfl ?_
  refine r_ishr C dX3_wasPut_5 ?_
  refine r_iconst (v := 1) C dX3_wasPut_6 (by decide) ?_
  refine r_iand C dX3_wasPut_7 ?_
  refine r_ifeq (tgt := 15) C dX3_wasPut_8 (by decide) (fun c3 => ?_) (fun c3 => ?_)
  · rw [if_pos c3] at hf0
    refine r_iconst (v := 0) C dX3_wasPut_15 (by decide) ?_
    obtain rfl := so hf0
    exact r_zret C dX3_wasPut_16 (Or.inl rfl)
  · rw [if_neg c3] at hf0
    refine r_iconst (v := 1) C dX3_wasPut_11 (by decide) ?_
    refine r_goto (tgt := 16) C dX3_wasPut_12 (by decide) ?_
    obtain rfl := so hf0
    exact r_zret C dX3_wasPut_16 (Or.inr rfl)
def f_X3_certainty_j56 (h : aH) (v2 : Int32) : Option (Int32) := if v2 = 0 then some (0 : Int32) else some (1 : Int32)
def f_X3_certainty_b4 (h : aH) (v0 : Nat) (v1 : Int32) (v2 : Int32) (v3 : Int32) : Option ((Int32 × Int32) ⊕ (Int32)) := (gI h 3 v0 5).bind fun t1 => if t1 ≤ v3 then some (.inr v2) else (gR h 3 v0 4).bind fun t2 => (gR h 3 v0 2).bind fun t3 => (lI h t3 v3).bind fun t4 => (ck h 1 t2).bind fun _ => (f_X1_inQuestion h t2 v1 t4).bind fun t5 => (some (v2 + t5)).bind fun t6 => (some (v3 + (1 : Int32))).bind fun t7 => some (.inl (t6, t7))
def f_X3_certainty_l4 (h : aH) (v0 : Nat) (v1 : Int32) (v2 : Int32) (v3 : Int32) : Option (Int32) := whileL wN (fun q : Int32 × Int32 => f_X3_certainty_b4 h v0 v1 q.1 q.2) (v2, v3)
def f_X3_certainty (h : aH) (v0 : Nat) (v1 : Int32) : Option (Int32) := (f_X3_certainty_l4 h v0 v1 (0 : Int32) (0 : Int32)).bind fun t8 => (gI h 3 v0 5).bind fun t9 => if t9 = 0 then some (-1 : Int32) else if t8 = 0 then f_X3_certainty_j56 h t8 else (gI h 3 v0 5).bind fun t10 => if t8 = t10 then f_X3_certainty_j56 h t8 else some (-1 : Int32)
theorem s_X3_certainty {h : aH} {v0 : Nat} {v1 : Int32} {out : Int32} (hf0 : f_X3_certainty h v0 v1 = some out) : EV 1 yX3_certainty cX3_certainty 4 (some .int) h [.ref v0, .int v1] (some (.int out)) h 0 0 := by
  refine EV.of (own := RX3) (lv0 := [(0, .ref v0), (1, .int v1)]) (by decide +kernel) rfl rfl (Nat.le_of_ble_eq_true rfl) ?_
  intro p l e s m args below meth c D cA B Hb C hin
  unfold f_X3_certainty at hf0
  have J56 : ∀ (t1 : Int32), f_X3_certainty_j56 h t1 = some out → gW p l e (rmO 1 0 0) s m args below meth c (MQ below (eQ D cA B Hb h (some (.int out))) args s 0 0 (fun q => B ≤ q)) D cA B Hb 4 h 56 [(2, .int t1)] [] 0 0 := by
    intro t1 hf0
    unfold f_X3_certainty_j56 at hf0
    refine r_iload_n C dX3_certainty_56 rfl ?_
    refine r_ifne (tgt := 64) C dX3_certainty_57 (by decide) (fun c2 => ?_) (fun c2 => ?_)
    · rw [if_neg c2] at hf0
      refine r_iconst (v := 1) C dX3_certainty_64 (by decide) ?_
      obtain rfl := so hf0
      exact r_iret C dX3_certainty_65
    · rw [if_pos c2] at hf0
      refine r_iconst (v := 0) C dX3_certainty_60 (by decide) ?_
      refine r_goto (tgt := 65) C dX3_certainty_61 (by decide) ?_
      obtain rfl := so hf0
      exact r_iret C dX3_certainty_65
  refine r_iconst (v := 0) C dX3_certainty_0 (by decide) ?_
  refine r_istore_n (lv' := [(2, .int (0 : Int32)), (0, .ref v0), (1, .int v1)]) C dX3_certainty_1 (by decide) rfl rfl ?_
  refine r_iconst (v := 0) C dX3_certainty_2 (by decide) ?_
  refine r_istore_n (lv' := [(3, .int (0 : Int32)), (2, .int (0 : Int32)), (0, .ref v0), (1, .int v1)]) C dX3_certainty_3 (by decide) rfl rfl ?_
  obtain ⟨y3, hl4, hf0⟩ := ob hf0
  have L4 : ∀ (n : Nat) (t4 : Int32) (t5 : Int32), whileL n (fun q : Int32 × Int32 => f_X3_certainty_b4 h v0 v1 q.1 q.2) (t4, t5) = some y3 → gW p l e (rmO 1 0 0) s m args below meth c (MQ below (eQ D cA B Hb h (some (.int out))) args s 0 0 (fun q => B ≤ q)) D cA B Hb 4 h 4 [(0, .ref v0), (1, .int v1), (2, .int t4), (3, .int t5)] [] 0 0 := by
    intro n
    induction n with
    | zero => intro t4 t5 hz; cases hz
    | succ n ih4 =>
      intro t4 t5 hz
      obtain ⟨x4, hf1, hk4⟩ := wl hz
      replace hf1 : f_X3_certainty_b4 h v0 v1 t4 t5 = some x4 := hf1
      unfold f_X3_certainty_b4 at hf1
      refine r_iload_n C dX3_certainty_4 rfl ?_
      refine r_aload_n C dX3_certainty_5 rfl ?_
      obtain ⟨t6, e7, hf1⟩ := ob hf1
      refine r_getI C fk_X3_28 rfl dX3_certainty_6 e7 ?_
      refine r_icmp_ge (tgt := 35) C dX3_certainty_9 (by decide) (fun c8 => ?_) (fun c8 => ?_)
      · rw [if_pos c8] at hf1
        obtain rfl := so hf1
        obtain rfl := so (show some t4 = some y3 from hk4)
        refine r_aload_n C dX3_certainty_35 rfl ?_
        obtain ⟨t9, e10, hf0⟩ := ob hf0
        refine r_getI C fk_X3_28 rfl dX3_certainty_36 e10 ?_
        refine r_ifeq (tgt := 54) C dX3_certainty_39 (by decide) (fun c11 => ?_) (fun c11 => ?_)
        · rw [if_pos c11] at hf0
          refine r_iconst (v := -1) C dX3_certainty_54 (by decide) ?_
          obtain rfl := so hf0
          exact r_iret C dX3_certainty_55
        · rw [if_neg c11] at hf0
          refine r_iload_n C dX3_certainty_42 rfl ?_
          refine r_ifeq (tgt := 56) C dX3_certainty_43 (by decide) (fun c12 => ?_) (fun c12 => ?_)
          · rw [if_pos c12] at hf0
            refine r_subk [2] (lv' := [(2, .int t4)]) rfl ?_
            exact J56 t4 hf0
          · rw [if_neg c12] at hf0
            refine r_iload_n C dX3_certainty_46 rfl ?_
            refine r_aload_n C dX3_certainty_47 rfl ?_
            obtain ⟨t13, e14, hf0⟩ := ob hf0
            refine r_getI C fk_X3_28 rfl dX3_certainty_48 e14 ?_
            refine r_icmp_eq (tgt := 56) C dX3_certainty_51 (by decide) (fun c15 => ?_) (fun c15 => ?_)
            · rw [if_pos c15] at hf0
              refine r_subk [2] (lv' := [(2, .int t4)]) rfl ?_
              exact J56 t4 hf0
            · rw [if_neg c15] at hf0
              refine r_iconst (v := -1) C dX3_certainty_54 (by decide) ?_
              obtain rfl := so hf0
              exact r_iret C dX3_certainty_55
      · rw [if_neg c8] at hf1
        refine r_iload_n C dX3_certainty_12 rfl ?_
        refine r_aload_n C dX3_certainty_13 rfl ?_
        obtain ⟨t16, e17, hf1⟩ := ob hf1
        refine r_getR C fk_X3_35 rfl dX3_certainty_14 e17 ?_
        refine r_iload_n C dX3_certainty_17 rfl ?_
        refine r_aload_n C dX3_certainty_18 rfl ?_
        obtain ⟨t18, e19, hf1⟩ := ob hf1
        refine r_getR C fk_X3_22 rfl dX3_certainty_19 e19 ?_
        refine r_iload_n C dX3_certainty_22 rfl ?_
        obtain ⟨t20, e21, hf1⟩ := ob hf1
        refine r_ldI C dX3_certainty_23 e21 ?_
        obtain ⟨u23, e22, hf1⟩ := ob hf1
        obtain ⟨t24, e25, hf1⟩ := ob hf1
        refine r_cV (ci := 1) (rest := [.int t4]) (st2 := [.int t24, .int t4]) C (s_X1_inQuestion e25) mk_X1_inQuestion rfl (ck_k e22) (by decide) im_X1_inQuestion sl_X1_inQuestion lk_X3_96 rfl rfl rfl dX3_certainty_24 (Nat.le_of_ble_eq_true rfl) ⟨Nat.le_of_ble_eq_true rfl, Nat.le_of_ble_eq_true rfl⟩ ⟨Nat.le_of_ble_eq_true rfl, Nat.le_of_ble_eq_true rfl⟩ ?_
        refine r_iadd C dX3_certainty_27 ?_
        obtain ⟨t26, e27, hf1⟩ := ob hf1
        refine r_istore_n (lv' := [(2, .int t26), (0, .ref v0), (1, .int v1), (3, .int t5)]) C dX3_certainty_28 (by decide) e27 rfl ?_
        obtain ⟨t28, e29, hf1⟩ := ob hf1
        refine r_iinc (lv' := [(3, .int t28), (2, .int t26), (0, .ref v0), (1, .int v1)]) C dX3_certainty_29 rfl e29 (by decide) rfl ?_
        refine r_goto (tgt := 4) C dX3_certainty_32 (by decide) ?_
        obtain rfl := so hf1
        refine r_subk [2, 3, 1, 0] (lv' := [(0, .ref v0), (1, .int v1), (2, .int t26), (3, .int t28)]) rfl ?_
        exact ih4 t26 t28 hk4
  refine r_subk [2, 3, 1, 0] (lv' := [(0, .ref v0), (1, .int v1), (2, .int (0 : Int32)), (3, .int (0 : Int32))]) rfl ?_
  exact L4 wN (0 : Int32) (0 : Int32) hl4
def f_X3_weightOf_j90 (h : aH) (v0 : Nat) (v1 : Int32) (v2 : Int32) (v3 : Int32) (v4 : Int64) (v6 : Int32) (v7 : Int32) (v8 : Int32) (v9 : Int32) : Option ((Int32 × Int32) ⊕ (Int32)) := (some (v9 + (1 : Int32))).bind fun t8 => some (.inl (v8, t8))
def f_X3_weightOf_j70 (h : aH) (v0 : Nat) (v1 : Int32) (v2 : Int32) (v3 : Int32) (v4 : Int64) (v6 : Int32) (v7 : Int32) (v8 : Int32) (v9 : Int32) : Option ((Int32 × Int32) ⊕ (Int32)) := (gR h 3 v0 4).bind fun t9 => (gR h 1 t9 8).bind fun t10 => (lI h t10 ((v6 * (4 : Int32)) + v9)).bind fun t11 => (some (v8 + t11)).bind fun t12 => f_X3_weightOf_j90 h v0 v1 v2 v3 v4 v6 v7 t12 v9
def f_X3_weightOf_b42 (h : aH) (v0 : Nat) (v1 : Int32) (v2 : Int32) (v3 : Int32) (v4 : Int64) (v6 : Int32) (v7 : Int32) (v8 : Int32) (v9 : Int32) : Option ((Int32 × Int32) ⊕ (Int32)) := if (4 : Int32) ≤ v9 then some (.inr v8) else if ((v7 >>> (v9 &&& 31)) &&& (1 : Int32)) = 0 then f_X3_weightOf_j90 h v0 v1 v2 v3 v4 v6 v7 v8 v9 else if v6 = v2 then if v9 = v3 then f_X3_weightOf_j70 h v0 v1 v2 v3 v4 v6 v7 v8 v9 else f_X3_weightOf_j90 h v0 v1 v2 v3 v4 v6 v7 v8 v9 else f_X3_weightOf_j70 h v0 v1 v2 v3 v4 v6 v7 v8 v9
def f_X3_weightOf_l42 (h : aH) (v0 : Nat) (v1 : Int32) (v2 : Int32) (v3 : Int32) (v4 : Int64) (v6 : Int32) (v7 : Int32) (v8 : Int32) (v9 : Int32) : Option (Int32) := whileL wN (fun q : Int32 × Int32 => f_X3_weightOf_b42 h v0 v1 v2 v3 v4 v6 v7 q.1 q.2) (v8, v9)
def f_X3_weightOf_b15 (h : aH) (v0 : Nat) (v1 : Int32) (v2 : Int32) (v3 : Int32) (v4 : Int64) (v6 : Int32) : Option ((Int64 × Int32) ⊕ (Int64)) := (gR h 3 v0 4).bind fun t5 => (gI h 1 t5 17).bind fun t6 => if t6 ≤ v6 then some (.inr v4) else (ck h 3 v0).bind fun _ => (f_X3_kindsLeft h v0 v6 v1).bind fun t7 => (f_X3_weightOf_l42 h v0 v1 v2 v3 v4 v6 t7 (0 : Int32) (0 : Int32)).bind fun t13 => (some (v4 * (Int32.toInt64 t13))).bind fun t14 => (some (v6 + (1 : Int32))).bind fun t15 => some (.inl (t14, t15))
def f_X3_weightOf_l15 (h : aH) (v0 : Nat) (v1 : Int32) (v2 : Int32) (v3 : Int32) (v4 : Int64) (v6 : Int32) : Option (Int64) := whileL wN (fun q : Int64 × Int32 => f_X3_weightOf_b15 h v0 v1 v2 v3 q.1 q.2) (v4, v6)
def f_X3_weightOf (h : aH) (v0 : Nat) (v1 : Int32) (v2 : Int32) (v3 : Int32) : Option (Int64) := (gR h 3 v0 4).bind fun t1 => (gR h 1 t1 5).bind fun t2 => (lI h t2 v1).bind fun t3 => (some (Int32.toInt64 t3)).bind fun t4 => (f_X3_weightOf_l15 h v0 v1 v2 v3 t4 (0 : Int32)).bind fun t16 => some t16
theorem s_X3_weightOf {h : aH} {v0 : Nat} {v1 : Int32} {v2 : Int32} {v3 : Int32} {out : Int64} (hf0 : f_X3_weightOf h v0 v1 v2 v3 = some out) : EV 1 yX3_weightOf cX3_weightOf 10 (some .long) h [.ref v0, .int v1, .int v2, .int v3] (some (.long out)) h 0 0 := by
  refine EV.of (own := RX3) (lv0 := [(0, .ref v0), (1, .int v1), (2, .int v2), (3, .int v3)]) (by decide +kernel) rfl rfl (Nat.le_of_ble_eq_true rfl) ?_
  intro p l e s m args below meth c D cA B Hb C hin
  unfold f_X3_weightOf at hf0
  refine r_aload_n C dX3_weightOf_0 rfl ?_
  obtain ⟨t1, e2, hf0⟩ := ob hf0
  refine r_getR C fk_X3_35 rfl dX3_weightOf_1 e2 ?_
  obtain ⟨t3, e4, hf0⟩ := ob hf0
  refine r_getR C fk_X3_107 rfl dX3_weightOf_4 e4 ?_
  refine r_iload_n C dX3_weightOf_7 rfl ?_
  obtain ⟨t5, e6, hf0⟩ := ob hf0
  refine r_ldI C dX3_weightOf_8 e6 ?_
  refine r_i2l C dX3_weightOf_9 ?_
  obtain ⟨t7, e8, hf0⟩ := ob hf0
  refine r_lstore (lv' := [(4, .long t7), (0, .ref v0), (1, .int v1), (2, .int v2), (3, .int v3)]) C dX3_weightOf_10 (by decide) e8 rfl ?_
  refine r_iconst (v := 0) C dX3_weightOf_12 (by decide) ?_
  refine r_istore (lv' := [(6, .int (0 : Int32)), (4, .long t7), (0, .ref v0), (1, .int v1), (2, .int v2), (3, .int v3)]) C dX3_weightOf_13 (by decide) rfl rfl ?_
  obtain ⟨y9, hl15, hf0⟩ := ob hf0
  have L15 : ∀ (n : Nat) (t10 : Int64) (t11 : Int32), whileL n (fun q : Int64 × Int32 => f_X3_weightOf_b15 h v0 v1 v2 v3 q.1 q.2) (t10, t11) = some y9 → gW p l e (rmO 1 0 0) s m args below meth c (MQ below (eQ D cA B Hb h (some (.long out))) args s 0 0 (fun q => B ≤ q)) D cA B Hb 10 h 15 [(0, .ref v0), (1, .int v1), (2, .int v2), (3, .int v3), (4, .long t10), (6, .int t11)] [] 0 0 := by
    intro n
    induction n with
    | zero => intro t10 t11 hz; cases hz
    | succ n ih15 =>
      intro t10 t11 hz
      obtain ⟨x15, hf1, hk15⟩ := wl hz
      replace hf1 : f_X3_weightOf_b15 h v0 v1 v2 v3 t10 t11 = some x15 := hf1
      unfold f_X3_weightOf_b15 at hf1
      refine r_iload C dX3_weightOf_15 rfl ?_
      refine r_aload_n C dX3_weightOf_17 rfl ?_
      obtain ⟨t12, e13, hf1⟩ := ob hf1
      refine r_getR C fk_X3_35 rfl dX3_weightOf_18 e13 ?_
      obtain ⟨t14, e15, hf1⟩ := ob hf1
      refine r_getI C fk_X3_110 rfl dX3_weightOf_21 e15 ?_
      refine r_icmp_ge (tgt := 110) C dX3_weightOf_24 (by decide) (fun c16 => ?_) (fun c16 => ?_)
      · rw [if_pos c16] at hf1
        obtain rfl := so hf1
        obtain rfl := so (show some t10 = some y9 from hk15)
        refine r_lload C dX3_weightOf_110 rfl ?_
        obtain rfl := so hf0
        exact r_lret C dX3_weightOf_112
      · rw [if_neg c16] at hf1
        refine r_aload_n C dX3_weightOf_27 rfl ?_
        refine r_iload C dX3_weightOf_28 rfl ?_
        refine r_iload_n C dX3_weightOf_30 rfl ?_
        obtain ⟨u18, e17, hf1⟩ := ob hf1
        obtain ⟨t19, e20, hf1⟩ := ob hf1
        refine r_cV (ci := 3) (rest := []) (st2 := [.int t19]) C (s_X3_kindsLeft e20) mk_X3_kindsLeft rfl (ck_k e17) (by decide) im_X3_kindsLeft sl_X3_kindsLeft lk_X3_80 rfl rfl rfl dX3_weightOf_31 (Nat.le_of_ble_eq_true rfl) ⟨Nat.le_of_ble_eq_true rfl, Nat.le_of_ble_eq_true rfl⟩ ⟨Nat.le_of_ble_eq_true rfl, Nat.le_of_ble_eq_true rfl⟩ ?_
        refine r_istore (lv' := [(7, .int t19), (0, .ref v0), (1, .int v1), (2, .int v2), (3, .int v3), (4, .long t10), (6, .int t11)]) C dX3_weightOf_34 (by decide) rfl rfl ?_
        refine r_iconst (v := 0) C dX3_weightOf_36 (by decide) ?_
        refine r_istore (lv' := [(8, .int (0 : Int32)), (7, .int t19), (0, .ref v0), (1, .int v1), (2, .int v2), (3, .int v3), (4, .long t10), (6, .int t11)]) C dX3_weightOf_37 (by decide) rfl rfl ?_
        refine r_iconst (v := 0) C dX3_weightOf_39 (by decide) ?_
        refine r_istore (lv' := [(9, .int (0 : Int32)), (8, .int (0 : Int32)), (7, .int t19), (0, .ref v0), (1, .int v1), (2, .int v2), (3, .int v3), (4, .long t10), (6, .int t11)]) C dX3_weightOf_40 (by decide) rfl rfl ?_
        obtain ⟨y21, hl42, hf1⟩ := ob hf1
        have L42 : ∀ (n : Nat) (t22 : Int32) (t23 : Int32), whileL n (fun q : Int32 × Int32 => f_X3_weightOf_b42 h v0 v1 v2 v3 t10 t11 t19 q.1 q.2) (t22, t23) = some y21 → gW p l e (rmO 1 0 0) s m args below meth c (MQ below (eQ D cA B Hb h (some (.long out))) args s 0 0 (fun q => B ≤ q)) D cA B Hb 10 h 42 [(0, .ref v0), (1, .int v1), (2, .int v2), (3, .int v3), (4, .long t10), (6, .int t11), (7, .int t19), (8, .int t22), (9, .int t23)] [] 0 0 := by
          intro n
          induction n with
          | zero => intro t22 t23 hz; cases hz
          | succ n ih42 =>
            intro t22 t23 hz
            obtain ⟨x42, hf2, hk42⟩ := wl hz
            replace hf2 : f_X3_weightOf_b42 h v0 v1 v2 v3 t10 t11 t19 t22 t23 = some x42 := hf2
            unfold f_X3_weightOf_b42 at hf2
            have J90 : ∀ (t24 : Int32) (t25 : Int32), f_X3_weightOf_j90 h v0 v1 v2 v3 t10 t11 t19 t24 t25 = some x42 → gW p l e (rmO 1 0 0) s m args below meth c (MQ below (eQ D cA B Hb h (some (.long out))) args s 0 0 (fun q => B ≤ q)) D cA B Hb 10 h 90 [(0, .ref v0), (1, .int v1), (2, .int v2), (3, .int v3), (4, .long t10), (6, .int t11), (7, .int t19), (8, .int t24), (9, .int t25)] [] 0 0 := by
              intro t24 t25 hf2
              unfold f_X3_weightOf_j90 at hf2
              obtain ⟨t26, e27, hf2⟩ := ob hf2
              refine r_iinc (lv' := [(9, .int t26), (0, .ref v0), (1, .int v1), (2, .int v2), (3, .int v3), (4, .long t10), (6, .int t11), (7, .int t19), (8, .int t24)]) C dX3_weightOf_90 rfl e27 (by decide) rfl ?_
              refine r_goto (tgt := 42) C dX3_weightOf_93 (by decide) ?_
              obtain rfl := so hf2
              refine r_subk [1, 2, 3, 4, 5, 6, 7, 8, 0] (lv' := [(0, .ref v0), (1, .int v1), (2, .int v2), (3, .int v3), (4, .long t10), (6, .int t11), (7, .int t19), (8, .int t24), (9, .int t26)]) rfl ?_
              exact ih42 t24 t26 hk42
            have J70 : ∀ (t28 : Int32) (t29 : Int32), f_X3_weightOf_j70 h v0 v1 v2 v3 t10 t11 t19 t28 t29 = some x42 → gW p l e (rmO 1 0 0) s m args below meth c (MQ below (eQ D cA B Hb h (some (.long out))) args s 0 0 (fun q => B ≤ q)) D cA B Hb 10 h 70 [(0, .ref v0), (1, .int v1), (2, .int v2), (3, .int v3), (4, .long t10), (6, .int t11), (7, .int t19), (8, .int t28), (9, .int t29)] [] 0 0 := by
              intro t28 t29 hf2
              unfold f_X3_weightOf_j70 at hf2
              refine r_iload C dX3_weightOf_70 rfl ?_
              refine r_aload_n C dX3_weightOf_72 rfl ?_
              obtain ⟨t30, e31, hf2⟩ := ob hf2
              refine r_getR C fk_X3_35 rfl dX3_weightOf_73 e31 ?_
              obtain ⟨t32, e33, hf2⟩ := ob hf2
              refine r_getR C fk_X3_113 rfl dX3_weightOf_76 e33 ?_
              refine r_iload C dX3_weightOf_79 rfl ?_
              refine r_iconst (v := 4) C dX3_weightOf_81 (by decide) ?_
              refine r_imul C dX3_weightOf_82 ?_
              refine r_iload C dX3_weightOf_83 rfl ?_
              refine r_iadd C dX3_weightOf_85 ?_
              obtain ⟨t34, e35, hf2⟩ := ob hf2
              refine r_ldI C dX3_weightOf_86 e35 ?_
              refine r_iadd C dX3_weightOf_87 ?_
              obtain ⟨t36, e37, hf2⟩ := ob hf2
              refine r_istore (lv' := [(8, .int t36), (0, .ref v0), (1, .int v1), (2, .int v2), (3, .int v3), (4, .long t10), (6, .int t11), (7, .int t19), (9, .int t29)]) C dX3_weightOf_88 (by decide) e37 rfl ?_
              refine r_subk [1, 2, 3, 4, 5, 6, 7, 0, 8] (lv' := [(0, .ref v0), (1, .int v1), (2, .int v2), (3, .int v3), (4, .long t10), (6, .int t11), (7, .int t19), (8, .int t36), (9, .int t29)]) rfl ?_
              exact J90 t36 t29 hf2
            refine r_iload C dX3_weightOf_42 rfl ?_
            refine r_iconst (v := 4) C dX3_weightOf_44 (by decide) ?_
            refine r_icmp_ge (tgt := 96) C dX3_weightOf_45 (by decide) (fun c38 => ?_) (fun c38 => ?_)
            · rw [if_pos c38] at hf2
              obtain rfl := so hf2
              obtain rfl := so (show some t22 = some y21 from hk42)
              refine r_lload C dX3_weightOf_96 rfl ?_
              refine r_iload C dX3_weightOf_98 rfl ?_
              refine r_i2l C dX3_weightOf_100 ?_
              refine r_lmul C dX3_weightOf_101 ?_
              obtain ⟨t39, e40, hf1⟩ := ob hf1
              refine r_lstore (lv' := [(4, .long t39), (0, .ref v0), (1, .int v1), (2, .int v2), (3, .int v3), (6, .int t11), (7, .int t19), (8, .int t22), (9, .int t23)]) C dX3_weightOf_102 (by decide) e40 rfl ?_
              obtain ⟨t41, e42, hf1⟩ := ob hf1
              refine r_iinc (lv' := [(6, .int t41), (4, .long t39), (0, .ref v0), (1, .int v1), (2, .int v2), (3, .int v3), (7, .int t19), (8, .int t22), (9, .int t23)]) C dX3_weightOf_104 rfl e42 (by decide) rfl ?_
              refine r_goto (tgt := 15) C dX3_weightOf_107 (by decide) ?_
              obtain rfl := so hf1
              refine r_subk [2, 3, 4, 5, 1, 0] (lv' := [(0, .ref v0), (1, .int v1), (2, .int v2), (3, .int v3), (4, .long t39), (6, .int t41)]) rfl ?_
              exact ih15 t39 t41 hk15
            · rw [if_neg c38] at hf2
              refine r_iload C dX3_weightOf_48 rfl ?_
              refine r_iload C dX3_weightOf_50 rfl ?_
              refine r_ishr C dX3_weightOf_52 ?_
              refine r_iconst (v := 1) C dX3_weightOf_53 (by decide) ?_
              refine r_iand C dX3_weightOf_54 ?_
              refine r_ifeq (tgt := 90) C dX3_weightOf_55 (by decide) (fun c43 => ?_) (fun c43 => ?_)
              · rw [if_pos c43] at hf2
                exact J90 t22 t23 hf2
              · rw [if_neg c43] at hf2
                refine r_iload C dX3_weightOf_58 rfl ?_
                refine r_iload_n C dX3_weightOf_60 rfl ?_
                refine r_icmp_ne (tgt := 70) C dX3_weightOf_61 (by decide) (fun c44 => ?_) (fun c44 => ?_)
                · rw [if_neg c44] at hf2
                  exact J70 t22 t23 hf2
                · rw [if_pos c44] at hf2
                  refine r_iload C dX3_weightOf_64 rfl ?_
                  refine r_iload_n C dX3_weightOf_66 rfl ?_
                  refine r_icmp_ne (tgt := 90) C dX3_weightOf_67 (by decide) (fun c45 => ?_) (fun c45 => ?_)
                  · rw [if_neg c45] at hf2
                    exact J90 t22 t23 hf2
                  · rw [if_pos c45] at hf2
                    exact J70 t22 t23 hf2
        refine r_subk [3, 4, 5, 6, 7, 8, 2, 1, 0] (lv' := [(0, .ref v0), (1, .int v1), (2, .int v2), (3, .int v3), (4, .long t10), (6, .int t11), (7, .int t19), (8, .int (0 : Int32)), (9, .int (0 : Int32))]) rfl ?_
        exact L42 wN (0 : Int32) (0 : Int32) hl42
  refine r_subk [2, 3, 4, 5, 1, 0] (lv' := [(0, .ref v0), (1, .int v1), (2, .int v2), (3, .int v3), (4, .long t7), (6, .int (0 : Int32))]) rfl ?_
  exact L15 wN t7 (0 : Int32) hl15
def f_X3_weightWith_b5 (h : aH) (v0 : Nat) (v1 : Int32) (v2 : Int32) (v3 : Int64) (v5 : Int32) : Option ((Int64 × Int32) ⊕ (Int64)) := (gI h 3 v0 5).bind fun t1 => if t1 ≤ v5 then some (.inr v3) else (gR h 3 v0 2).bind fun t2 => (lI h t2 v5).bind fun t3 => (ck h 3 v0).bind fun _ => (f_X3_weightOf h v0 t3 v1 v2).bind fun t4 => (some (v3 + t4)).bind fun t5 => (some (v5 + (1 : Int32))).bind fun t6 => some (.inl (t5, t6))
def f_X3_weightWith_l5 (h : aH) (v0 : Nat) (v1 : Int32) (v2 : Int32) (v3 : Int64) (v5 : Int32) : Option (Int64) := whileL wN (fun q : Int64 × Int32 => f_X3_weightWith_b5 h v0 v1 v2 q.1 q.2) (v3, v5)
def f_X3_weightWith (h : aH) (v0 : Nat) (v1 : Int32) (v2 : Int32) : Option (Int64) := (f_X3_weightWith_l5 h v0 v1 v2 (0 : Int64) (0 : Int32)).bind fun t7 => some t7
theorem s_X3_weightWith {h : aH} {v0 : Nat} {v1 : Int32} {v2 : Int32} {out : Int64} (hf0 : f_X3_weightWith h v0 v1 v2 = some out) : EV 2 yX3_weightWith cX3_weightWith 6 (some .long) h [.ref v0, .int v1, .int v2] (some (.long out)) h 0 0 := by
  refine EV.of (own := RX3) (lv0 := [(0, .ref v0), (1, .int v1), (2, .int v2)]) (by decide +kernel) rfl rfl (Nat.le_of_ble_eq_true rfl) ?_
  intro p l e s m args below meth c D cA B Hb C hin
  unfold f_X3_weightWith at hf0
  refine r_lconst (v := 0) C dX3_weightWith_0 (by decide) ?_
  refine r_lstore_n (lv' := [(3, .long (0 : Int64)), (0, .ref v0), (1, .int v1), (2, .int v2)]) C dX3_weightWith_1 (by decide) rfl rfl ?_
  refine r_iconst (v := 0) C dX3_weightWith_2 (by decide) ?_
  refine r_istore (lv' := [(5, .int (0 : Int32)), (3, .long (0 : Int64)), (0, .ref v0), (1, .int v1), (2, .int v2)]) C dX3_weightWith_3 (by decide) rfl rfl ?_
  obtain ⟨y1, hl5, hf0⟩ := ob hf0
  have L5 : ∀ (n : Nat) (t2 : Int64) (t3 : Int32), whileL n (fun q : Int64 × Int32 => f_X3_weightWith_b5 h v0 v1 v2 q.1 q.2) (t2, t3) = some y1 → gW p l e (rmO 2 0 0) s m args below meth c (MQ below (eQ D cA B Hb h (some (.long out))) args s 0 0 (fun q => B ≤ q)) D cA B Hb 6 h 5 [(0, .ref v0), (1, .int v1), (2, .int v2), (3, .long t2), (5, .int t3)] [] 0 0 := by
    intro n
    induction n with
    | zero => intro t2 t3 hz; cases hz
    | succ n ih5 =>
      intro t2 t3 hz
      obtain ⟨x5, hf1, hk5⟩ := wl hz
      replace hf1 : f_X3_weightWith_b5 h v0 v1 v2 t2 t3 = some x5 := hf1
      unfold f_X3_weightWith_b5 at hf1
      refine r_iload C dX3_weightWith_5 rfl ?_
      refine r_aload_n C dX3_weightWith_7 rfl ?_
      obtain ⟨t4, e5, hf1⟩ := ob hf1
      refine r_getI C fk_X3_28 rfl dX3_weightWith_8 e5 ?_
      refine r_icmp_ge (tgt := 36) C dX3_weightWith_11 (by decide) (fun c6 => ?_) (fun c6 => ?_)
      · rw [if_pos c6] at hf1
        obtain rfl := so hf1
        obtain rfl := so (show some t2 = some y1 from hk5)
        refine r_lload_n C dX3_weightWith_36 rfl ?_
        obtain rfl := so hf0
        exact r_lret C dX3_weightWith_37
      · rw [if_neg c6] at hf1
        refine r_lload_n C dX3_weightWith_14 rfl ?_
        refine r_aload_n C dX3_weightWith_15 rfl ?_
        refine r_aload_n C dX3_weightWith_16 rfl ?_
        obtain ⟨t7, e8, hf1⟩ := ob hf1
        refine r_getR C fk_X3_22 rfl dX3_weightWith_17 e8 ?_
        refine r_iload C dX3_weightWith_20 rfl ?_
        obtain ⟨t9, e10, hf1⟩ := ob hf1
        refine r_ldI C dX3_weightWith_22 e10 ?_
        refine r_iload_n C dX3_weightWith_23 rfl ?_
        refine r_iload_n C dX3_weightWith_24 rfl ?_
        obtain ⟨u12, e11, hf1⟩ := ob hf1
        obtain ⟨t13, e14, hf1⟩ := ob hf1
        refine r_cV (ci := 3) (rest := [.long t2]) (st2 := [.long t13, .long t2]) C (s_X3_weightOf e14) mk_X3_weightOf rfl (ck_k e11) (by decide) im_X3_weightOf sl_X3_weightOf lk_X3_103 rfl rfl rfl dX3_weightWith_25 (Nat.le_of_ble_eq_true rfl) ⟨Nat.le_of_ble_eq_true rfl, Nat.le_of_ble_eq_true rfl⟩ ⟨Nat.le_of_ble_eq_true rfl, Nat.le_of_ble_eq_true rfl⟩ ?_
        refine r_ladd C dX3_weightWith_28 ?_
        obtain ⟨t15, e16, hf1⟩ := ob hf1
        refine r_lstore_n (lv' := [(3, .long t15), (0, .ref v0), (1, .int v1), (2, .int v2), (5, .int t3)]) C dX3_weightWith_29 (by decide) e16 rfl ?_
        obtain ⟨t17, e18, hf1⟩ := ob hf1
        refine r_iinc (lv' := [(5, .int t17), (3, .long t15), (0, .ref v0), (1, .int v1), (2, .int v2)]) C dX3_weightWith_30 rfl e18 (by decide) rfl ?_
        refine r_goto (tgt := 5) C dX3_weightWith_33 (by decide) ?_
        obtain rfl := so hf1
        refine r_subk [2, 3, 4, 1, 0] (lv' := [(0, .ref v0), (1, .int v1), (2, .int v2), (3, .long t15), (5, .int t17)]) rfl ?_
        exact ih5 t15 t17 hk5
  refine r_subk [2, 3, 4, 1, 0] (lv' := [(0, .ref v0), (1, .int v1), (2, .int v2), (3, .long (0 : Int64)), (5, .int (0 : Int32))]) rfl ?_
  exact L5 wN (0 : Int64) (0 : Int32) hl5
def f_X3_weightOfAll (h : aH) (v0 : Nat) : Option (Int64) := (ck h 3 v0).bind fun _ => (f_X3_weightWith h v0 (-1 : Int32) (-1 : Int32)).bind fun t1 => some t1
theorem s_X3_weightOfAll {h : aH} {v0 : Nat} {out : Int64} (hf0 : f_X3_weightOfAll h v0 = some out) : EV 3 yX3_weightOfAll cX3_weightOfAll 1 (some .long) h [.ref v0] (some (.long out)) h 0 0 := by
  refine EV.of (own := RX3) (lv0 := [(0, .ref v0)]) (by decide +kernel) rfl rfl (Nat.le_of_ble_eq_true rfl) ?_
  intro p l e s m args below meth c D cA B Hb C hin
  unfold f_X3_weightOfAll at hf0
  refine r_aload_n C dX3_weightOfAll_0 rfl ?_
  refine r_iconst (v := -1) C dX3_weightOfAll_1 (by decide) ?_
  refine r_iconst (v := -1) C dX3_weightOfAll_2 (by decide) ?_
  obtain ⟨u2, e1, hf0⟩ := ob hf0
  obtain ⟨t3, e4, hf0⟩ := ob hf0
  refine r_cV (ci := 3) (rest := []) (st2 := [.long t3]) C (s_X3_weightWith e4) mk_X3_weightWith rfl (ck_k e1) (by decide) im_X3_weightWith sl_X3_weightWith lk_X3_99 rfl rfl rfl dX3_weightOfAll_3 (Nat.le_of_ble_eq_true rfl) ⟨Nat.le_of_ble_eq_true rfl, Nat.le_of_ble_eq_true rfl⟩ ⟨Nat.le_of_ble_eq_true rfl, Nat.le_of_ble_eq_true rfl⟩ ?_
  obtain rfl := so hf0
  exact r_lret C dX3_weightOfAll_6
def f_X3_weightIn_j49 (h : aH) (v0 : Nat) (v1 : Int32) (v2 : Int64) (v4 : Int32) : Option ((Int64 × Int32) ⊕ (Int64)) := (some (v4 + (1 : Int32))).bind fun t1 => some (.inl (v2, t1))
def f_X3_weightIn_b5 (h : aH) (v0 : Nat) (v1 : Int32) (v2 : Int64) (v4 : Int32) : Option ((Int64 × Int32) ⊕ (Int64)) := (gI h 3 v0 5).bind fun t2 => if t2 ≤ v4 then some (.inr v2) else (gR h 3 v0 4).bind fun t3 => (gR h 3 v0 2).bind fun t4 => (lI h t4 v4).bind fun t5 => (ck h 1 t3).bind fun _ => (f_X1_inQuestion h t3 v1 t5).bind fun t6 => if t6 = (1 : Int32) then (gR h 3 v0 2).bind fun t7 => (lI h t7 v4).bind fun t8 => (ck h 3 v0).bind fun _ => (f_X3_weightOf h v0 t8 (-1 : Int32) (-1 : Int32)).bind fun t9 => (some (v2 + t9)).bind fun t10 => f_X3_weightIn_j49 h v0 v1 t10 v4 else f_X3_weightIn_j49 h v0 v1 v2 v4
def f_X3_weightIn_l5 (h : aH) (v0 : Nat) (v1 : Int32) (v2 : Int64) (v4 : Int32) : Option (Int64) := whileL wN (fun q : Int64 × Int32 => f_X3_weightIn_b5 h v0 v1 q.1 q.2) (v2, v4)
def f_X3_weightIn (h : aH) (v0 : Nat) (v1 : Int32) : Option (Int64) := (f_X3_weightIn_l5 h v0 v1 (0 : Int64) (0 : Int32)).bind fun t11 => some t11
theorem s_X3_weightIn {h : aH} {v0 : Nat} {v1 : Int32} {out : Int64} (hf0 : f_X3_weightIn h v0 v1 = some out) : EV 2 yX3_weightIn cX3_weightIn 5 (some .long) h [.ref v0, .int v1] (some (.long out)) h 0 0 := by
  refine EV.of (own := RX3) (lv0 := [(0, .ref v0), (1, .int v1)]) (by decide +kernel) rfl rfl (Nat.le_of_ble_eq_true rfl) ?_
  intro p l e s m args below meth c D cA B Hb C hin
  unfold f_X3_weightIn at hf0
  refine r_lconst (v := 0) C dX3_weightIn_0 (by decide) ?_
  refine r_lstore_n (lv' := [(2, .long (0 : Int64)), (0, .ref v0), (1, .int v1)]) C dX3_weightIn_1 (by decide) rfl rfl ?_
  refine r_iconst (v := 0) C dX3_weightIn_2 (by decide) ?_
  refine r_istore (lv' := [(4, .int (0 : Int32)), (2, .long (0 : Int64)), (0, .ref v0), (1, .int v1)]) C dX3_weightIn_3 (by decide) rfl rfl ?_
  obtain ⟨y1, hl5, hf0⟩ := ob hf0
  have L5 : ∀ (n : Nat) (t2 : Int64) (t3 : Int32), whileL n (fun q : Int64 × Int32 => f_X3_weightIn_b5 h v0 v1 q.1 q.2) (t2, t3) = some y1 → gW p l e (rmO 2 0 0) s m args below meth c (MQ below (eQ D cA B Hb h (some (.long out))) args s 0 0 (fun q => B ≤ q)) D cA B Hb 5 h 5 [(0, .ref v0), (1, .int v1), (2, .long t2), (4, .int t3)] [] 0 0 := by
    intro n
    induction n with
    | zero => intro t2 t3 hz; cases hz
    | succ n ih5 =>
      intro t2 t3 hz
      obtain ⟨x5, hf1, hk5⟩ := wl hz
      replace hf1 : f_X3_weightIn_b5 h v0 v1 t2 t3 = some x5 := hf1
      unfold f_X3_weightIn_b5 at hf1
      have J49 : ∀ (t4 : Int64) (t5 : Int32), f_X3_weightIn_j49 h v0 v1 t4 t5 = some x5 → gW p l e (rmO 2 0 0) s m args below meth c (MQ below (eQ D cA B Hb h (some (.long out))) args s 0 0 (fun q => B ≤ q)) D cA B Hb 5 h 49 [(0, .ref v0), (1, .int v1), (2, .long t4), (4, .int t5)] [] 0 0 := by
        intro t4 t5 hf1
        unfold f_X3_weightIn_j49 at hf1
        obtain ⟨t6, e7, hf1⟩ := ob hf1
        refine r_iinc (lv' := [(4, .int t6), (0, .ref v0), (1, .int v1), (2, .long t4)]) C dX3_weightIn_49 rfl e7 (by decide) rfl ?_
        refine r_goto (tgt := 5) C dX3_weightIn_52 (by decide) ?_
        obtain rfl := so hf1
        refine r_subk [1, 2, 3, 0] (lv' := [(0, .ref v0), (1, .int v1), (2, .long t4), (4, .int t6)]) rfl ?_
        exact ih5 t4 t6 hk5
      refine r_iload C dX3_weightIn_5 rfl ?_
      refine r_aload_n C dX3_weightIn_7 rfl ?_
      obtain ⟨t8, e9, hf1⟩ := ob hf1
      refine r_getI C fk_X3_28 rfl dX3_weightIn_8 e9 ?_
      refine r_icmp_ge (tgt := 55) C dX3_weightIn_11 (by decide) (fun c10 => ?_) (fun c10 => ?_)
      · rw [if_pos c10] at hf1
        obtain rfl := so hf1
        obtain rfl := so (show some t2 = some y1 from hk5)
        refine r_lload_n C dX3_weightIn_55 rfl ?_
        obtain rfl := so hf0
        exact r_lret C dX3_weightIn_56
      · rw [if_neg c10] at hf1
        refine r_aload_n C dX3_weightIn_14 rfl ?_
        obtain ⟨t11, e12, hf1⟩ := ob hf1
        refine r_getR C fk_X3_35 rfl dX3_weightIn_15 e12 ?_
        refine r_iload_n C dX3_weightIn_18 rfl ?_
        refine r_aload_n C dX3_weightIn_19 rfl ?_
        obtain ⟨t13, e14, hf1⟩ := ob hf1
        refine r_getR C fk_X3_22 rfl dX3_weightIn_20 e14 ?_
        refine r_iload C dX3_weightIn_23 rfl ?_
        obtain ⟨t15, e16, hf1⟩ := ob hf1
        refine r_ldI C dX3_weightIn_25 e16 ?_
        obtain ⟨u18, e17, hf1⟩ := ob hf1
        obtain ⟨t19, e20, hf1⟩ := ob hf1
        refine r_cV (ci := 1) (rest := []) (st2 := [.int t19]) C (s_X1_inQuestion e20) mk_X1_inQuestion rfl (ck_k e17) (by decide) im_X1_inQuestion sl_X1_inQuestion lk_X3_96 rfl rfl rfl dX3_weightIn_26 (Nat.le_of_ble_eq_true rfl) ⟨Nat.le_of_ble_eq_true rfl, Nat.le_of_ble_eq_true rfl⟩ ⟨Nat.le_of_ble_eq_true rfl, Nat.le_of_ble_eq_true rfl⟩ ?_
        refine r_iconst (v := 1) C dX3_weightIn_29 (by decide) ?_
        refine r_icmp_ne (tgt := 49) C dX3_weightIn_30 (by decide) (fun c21 => ?_) (fun c21 => ?_)
        · rw [if_neg c21] at hf1
          exact J49 t2 t3 hf1
        · rw [if_pos c21] at hf1
          refine r_lload_n C dX3_weightIn_33 rfl ?_
          refine r_aload_n C dX3_weightIn_34 rfl ?_
          refine r_aload_n C dX3_weightIn_35 rfl ?_
          obtain ⟨t22, e23, hf1⟩ := ob hf1
          refine r_getR C fk_X3_22 rfl dX3_weightIn_36 e23 ?_
          refine r_iload C dX3_weightIn_39 rfl ?_
          obtain ⟨t24, e25, hf1⟩ := ob hf1
          refine r_ldI C dX3_weightIn_41 e25 ?_
          refine r_iconst (v := -1) C dX3_weightIn_42 (by decide) ?_
          refine r_iconst (v := -1) C dX3_weightIn_43 (by decide) ?_
          obtain ⟨u27, e26, hf1⟩ := ob hf1
          obtain ⟨t28, e29, hf1⟩ := ob hf1
          refine r_cV (ci := 3) (rest := [.long t2]) (st2 := [.long t28, .long t2]) C (s_X3_weightOf e29) mk_X3_weightOf rfl (ck_k e26) (by decide) im_X3_weightOf sl_X3_weightOf lk_X3_103 rfl rfl rfl dX3_weightIn_44 (Nat.le_of_ble_eq_true rfl) ⟨Nat.le_of_ble_eq_true rfl, Nat.le_of_ble_eq_true rfl⟩ ⟨Nat.le_of_ble_eq_true rfl, Nat.le_of_ble_eq_true rfl⟩ ?_
          refine r_ladd C dX3_weightIn_47 ?_
          obtain ⟨t30, e31, hf1⟩ := ob hf1
          refine r_lstore_n (lv' := [(2, .long t30), (0, .ref v0), (1, .int v1), (4, .int t3)]) C dX3_weightIn_48 (by decide) e31 rfl ?_
          refine r_subk [1, 2, 0, 3] (lv' := [(0, .ref v0), (1, .int v1), (2, .long t30), (4, .int t3)]) rfl ?_
          exact J49 t30 t3 hf1
  refine r_subk [2, 3, 1, 0] (lv' := [(0, .ref v0), (1, .int v1), (2, .long (0 : Int64)), (4, .int (0 : Int32))]) rfl ?_
  exact L5 wN (0 : Int64) (0 : Int32) hl5
def f_X3_takenAwayBy_j65 (h : aH) (v0 : Nat) (v1 : Int32) (v2 : Int32) (v3 : Int32) : Option ((Int32 × Int32) ⊕ (Int32)) := (some (v3 + (1 : Int32))).bind fun t1 => some (.inl (v2, t1))
def f_X3_takenAwayBy_b4 (h : aH) (v0 : Nat) (v1 : Int32) (v2 : Int32) (v3 : Int32) : Option ((Int32 × Int32) ⊕ (Int32)) := (gR h 3 v0 4).bind fun t2 => (gI h 1 t2 14).bind fun t3 => if t3 ≤ v3 then some (.inr v2) else (gR h 3 v0 0).bind fun t4 => (gR h 6 t4 0).bind fun t5 => (lI h t5 v1).bind fun t6 => (some (t6 * (4 : Int32))).bind fun t7 => (gR h 3 v0 4).bind fun t8 => (ck h 1 t8).bind fun _ => (f_X1_canBe h t8 v3).bind fun t9 => if t9 = 0 then f_X3_takenAwayBy_j65 h v0 v1 v2 v3 else (ck h 3 v0).bind fun _ => (f_X3_agreeing h v0 v1 v3).bind fun t10 => (gR h 3 v0 4).bind fun t11 => (gI h 1 t11 18).bind fun t12 => if ((t10 &&& t12) &&& ((15 : Int32) <<< (t7 &&& 31))) = 0 then (some (v2 + (1 : Int32))).bind fun t13 => f_X3_takenAwayBy_j65 h v0 v1 t13 v3 else f_X3_takenAwayBy_j65 h v0 v1 v2 v3
def f_X3_takenAwayBy_l4 (h : aH) (v0 : Nat) (v1 : Int32) (v2 : Int32) (v3 : Int32) : Option (Int32) := whileL wN (fun q : Int32 × Int32 => f_X3_takenAwayBy_b4 h v0 v1 q.1 q.2) (v2, v3)
def f_X3_takenAwayBy (h : aH) (v0 : Nat) (v1 : Int32) : Option (Int32) := (f_X3_takenAwayBy_l4 h v0 v1 (0 : Int32) (0 : Int32)).bind fun t14 => some t14
theorem s_X3_takenAwayBy {h : aH} {v0 : Nat} {v1 : Int32} {out : Int32} (hf0 : f_X3_takenAwayBy h v0 v1 = some out) : EV 2 yX3_takenAwayBy cX3_takenAwayBy 5 (some .int) h [.ref v0, .int v1] (some (.int out)) h 0 0 := by
  refine EV.of (own := RX3) (lv0 := [(0, .ref v0), (1, .int v1)]) (by decide +kernel) rfl rfl (Nat.le_of_ble_eq_true rfl) ?_
  intro p l e s m args below meth c D cA B Hb C hin
  unfold f_X3_takenAwayBy at hf0
  refine r_iconst (v := 0) C dX3_takenAwayBy_0 (by decide) ?_
  refine r_istore_n (lv' := [(2, .int (0 : Int32)), (0, .ref v0), (1, .int v1)]) C dX3_takenAwayBy_1 (by decide) rfl rfl ?_
  refine r_iconst (v := 0) C dX3_takenAwayBy_2 (by decide) ?_
  refine r_istore_n (lv' := [(3, .int (0 : Int32)), (2, .int (0 : Int32)), (0, .ref v0), (1, .int v1)]) C dX3_takenAwayBy_3 (by decide) rfl rfl ?_
  obtain ⟨y1, hl4, hf0⟩ := ob hf0
  have L4 : ∀ (n : Nat) (t2 : Int32) (t3 : Int32), whileL n (fun q : Int32 × Int32 => f_X3_takenAwayBy_b4 h v0 v1 q.1 q.2) (t2, t3) = some y1 → gW p l e (rmO 2 0 0) s m args below meth c (MQ below (eQ D cA B Hb h (some (.int out))) args s 0 0 (fun q => B ≤ q)) D cA B Hb 5 h 4 [(0, .ref v0), (1, .int v1), (2, .int t2), (3, .int t3)] [] 0 0 := by
    intro n
    induction n with
    | zero => intro t2 t3 hz; cases hz
    | succ n ih4 =>
      intro t2 t3 hz
      obtain ⟨x4, hf1, hk4⟩ := wl hz
      replace hf1 : f_X3_takenAwayBy_b4 h v0 v1 t2 t3 = some x4 := hf1
      unfold f_X3_takenAwayBy_b4 at hf1
      have J65 : ∀ (t4 : Int32) (t5 : Int32), f_X3_takenAwayBy_j65 h v0 v1 t4 t5 = some x4 → gW p l e (rmO 2 0 0) s m args below meth c (MQ below (eQ D cA B Hb h (some (.int out))) args s 0 0 (fun q => B ≤ q)) D cA B Hb 5 h 65 [(0, .ref v0), (1, .int v1), (2, .int t4), (3, .int t5)] [] 0 0 := by
        intro t4 t5 hf1
        unfold f_X3_takenAwayBy_j65 at hf1
        obtain ⟨t6, e7, hf1⟩ := ob hf1
        refine r_iinc (lv' := [(3, .int t6), (0, .ref v0), (1, .int v1), (2, .int t4)]) C dX3_takenAwayBy_65 rfl e7 (by decide) rfl ?_
        refine r_goto (tgt := 4) C dX3_takenAwayBy_68 (by decide) ?_
        obtain rfl := so hf1
        refine r_subk [1, 2, 3, 0] (lv' := [(0, .ref v0), (1, .int v1), (2, .int t4), (3, .int t6)]) rfl ?_
        exact ih4 t4 t6 hk4
      refine r_iload_n C dX3_takenAwayBy_4 rfl ?_
      refine r_aload_n C dX3_takenAwayBy_5 rfl ?_
      obtain ⟨t8, e9, hf1⟩ := ob hf1
      refine r_getR C fk_X3_35 rfl dX3_takenAwayBy_6 e9 ?_
      obtain ⟨t10, e11, hf1⟩ := ob hf1
      refine r_getI C fk_X3_60 rfl dX3_takenAwayBy_9 e11 ?_
      refine r_icmp_ge (tgt := 71) C dX3_takenAwayBy_12 (by decide) (fun c12 => ?_) (fun c12 => ?_)
      · rw [if_pos c12] at hf1
        obtain rfl := so hf1
        obtain rfl := so (show some t2 = some y1 from hk4)
        refine r_iload_n C dX3_takenAwayBy_71 rfl ?_
        obtain rfl := so hf0
        exact r_iret C dX3_takenAwayBy_72
      · rw [if_neg c12] at hf1
        refine r_aload_n C dX3_takenAwayBy_15 rfl ?_
        obtain ⟨t13, e14, hf1⟩ := ob hf1
        refine r_getR C fk_X3_12 rfl dX3_takenAwayBy_16 e14 ?_
        obtain ⟨t15, e16, hf1⟩ := ob hf1
        refine r_getR C fk_X3_77 rfl dX3_takenAwayBy_19 e16 ?_
        refine r_iload_n C dX3_takenAwayBy_22 rfl ?_
        obtain ⟨t17, e18, hf1⟩ := ob hf1
        refine r_ldI C dX3_takenAwayBy_23 e18 ?_
        refine r_iconst (v := 4) C dX3_takenAwayBy_24 (by decide) ?_
        refine r_imul C dX3_takenAwayBy_25 ?_
        obtain ⟨t19, e20, hf1⟩ := ob hf1
        refine r_istore (lv' := [(4, .int t19), (0, .ref v0), (1, .int v1), (2, .int t2), (3, .int t3)]) C dX3_takenAwayBy_26 (by decide) e20 rfl ?_
        refine r_aload_n C dX3_takenAwayBy_28 rfl ?_
        obtain ⟨t21, e22, hf1⟩ := ob hf1
        refine r_getR C fk_X3_35 rfl dX3_takenAwayBy_29 e22 ?_
        refine r_iload_n C dX3_takenAwayBy_32 rfl ?_
        obtain ⟨u24, e23, hf1⟩ := ob hf1
        obtain ⟨t25, e26, hf1⟩ := ob hf1
        refine r_cV (ci := 1) (rest := []) (st2 := [.int t25]) C (s_X1_canBe e26) mk_X1_canBe rfl (ck_k e23) (by decide) im_X1_canBe sl_X1_canBe lk_X3_66 rfl rfl rfl dX3_takenAwayBy_33 (Nat.le_of_ble_eq_true rfl) ⟨Nat.le_of_ble_eq_true rfl, Nat.le_of_ble_eq_true rfl⟩ ⟨Nat.le_of_ble_eq_true rfl, Nat.le_of_ble_eq_true rfl⟩ ?_
        refine r_ifeq (tgt := 65) C dX3_takenAwayBy_36 (by decide) (fun c27 => ?_) (fun c27 => ?_)
        · rw [if_pos c27] at hf1
          refine r_subk [1, 2, 3, 4] (lv' := [(0, .ref v0), (1, .int v1), (2, .int t2), (3, .int t3)]) rfl ?_
          exact J65 t2 t3 hf1
        · rw [if_neg c27] at hf1
          refine r_aload_n C dX3_takenAwayBy_39 rfl ?_
          refine r_iload_n C dX3_takenAwayBy_40 rfl ?_
          refine r_iload_n C dX3_takenAwayBy_41 rfl ?_
          obtain ⟨u29, e28, hf1⟩ := ob hf1
          obtain ⟨t30, e31, hf1⟩ := ob hf1
          refine r_cV (ci := 3) (rest := []) (st2 := [.int t30]) C (s_X3_agreeing e31) mk_X3_agreeing rfl (ck_k e28) (by decide) im_X3_agreeing sl_X3_agreeing lk_X3_73 rfl rfl rfl dX3_takenAwayBy_42 (Nat.le_of_ble_eq_true rfl) ⟨Nat.le_of_ble_eq_true rfl, Nat.le_of_ble_eq_true rfl⟩ ⟨Nat.le_of_ble_eq_true rfl, Nat.le_of_ble_eq_true rfl⟩ ?_
          refine r_aload_n C dX3_takenAwayBy_45 rfl ?_
          obtain ⟨t32, e33, hf1⟩ := ob hf1
          refine r_getR C fk_X3_35 rfl dX3_takenAwayBy_46 e33 ?_
          obtain ⟨t34, e35, hf1⟩ := ob hf1
          refine r_getI C fk_X3_93 rfl dX3_takenAwayBy_49 e35 ?_
          refine r_iand C dX3_takenAwayBy_52 ?_
          refine r_bipush (v := 15) C dX3_takenAwayBy_53 (by decide) ?_
          refine r_iload C dX3_takenAwayBy_55 rfl ?_
          refine r_ishl C dX3_takenAwayBy_57 ?_
          refine r_iand C dX3_takenAwayBy_58 ?_
          refine r_ifne (tgt := 65) C dX3_takenAwayBy_59 (by decide) (fun c36 => ?_) (fun c36 => ?_)
          · rw [if_neg c36] at hf1
            refine r_subk [1, 2, 3, 4] (lv' := [(0, .ref v0), (1, .int v1), (2, .int t2), (3, .int t3)]) rfl ?_
            exact J65 t2 t3 hf1
          · rw [if_pos c36] at hf1
            obtain ⟨t37, e38, hf1⟩ := ob hf1
            refine r_iinc (lv' := [(2, .int t37), (4, .int t19), (0, .ref v0), (1, .int v1), (3, .int t3)]) C dX3_takenAwayBy_62 rfl e38 (by decide) rfl ?_
            refine r_subk [2, 3, 0, 4] (lv' := [(0, .ref v0), (1, .int v1), (2, .int t37), (3, .int t3)]) rfl ?_
            exact J65 t37 t3 hf1
  refine r_subk [2, 3, 1, 0] (lv' := [(0, .ref v0), (1, .int v1), (2, .int (0 : Int32)), (3, .int (0 : Int32))]) rfl ?_
  exact L4 wN (0 : Int32) (0 : Int32) hl4
def f_X3_costs_b4 (h : aH) (v0 : Nat) (v1 : Int32) (v2 : Int32) : Option ((Int32 × Int32) ⊕ (Int32)) := (gR h 3 v0 0).bind fun t1 => (gI h 6 t1 4).bind fun t2 => if t2 ≤ v2 then some (.inr v1) else (gR h 3 v0 0).bind fun t3 => (gR h 6 t3 2).bind fun t4 => (lI h t4 v2).bind fun t5 => (some ((t5 &&& (1 : Int32)) + (1 : Int32))).bind fun t6 => (gR h 3 v0 4).bind fun t7 => (gR h 1 t7 7).bind fun t8 => (gR h 3 v0 0).bind fun t9 => (gR h 6 t9 1).bind fun t10 => (lI h t10 v2).bind fun t11 => (lI h t8 t11).bind fun t12 => (gR h 3 v0 4).bind fun t13 => (gR h 1 t13 7).bind fun t14 => (gR h 3 v0 0).bind fun t15 => (gR h 6 t15 2).bind fun t16 => (lI h t16 v2).bind fun t17 => (lI h t14 (t17 >>> ((1 : Int32) &&& 31))).bind fun t18 => (some (v1 + (t12 + (t6 * t18)))).bind fun t19 => (some (v2 + (1 : Int32))).bind fun t20 => some (.inl (t19, t20))
def f_X3_costs_l4 (h : aH) (v0 : Nat) (v1 : Int32) (v2 : Int32) : Option (Int32) := whileL wN (fun q : Int32 × Int32 => f_X3_costs_b4 h v0 q.1 q.2) (v1, v2)
def f_X3_costs (h : aH) (v0 : Nat) : Option (Int32) := (f_X3_costs_l4 h v0 (0 : Int32) (0 : Int32)).bind fun t21 => some t21
theorem s_X3_costs {h : aH} {v0 : Nat} {out : Int32} (hf0 : f_X3_costs h v0 = some out) : EV 0 yX3_costs cX3_costs 4 (some .int) h [.ref v0] (some (.int out)) h 0 0 := by
  refine EV.of (own := RX3) (lv0 := [(0, .ref v0)]) (by decide +kernel) rfl rfl (Nat.le_of_ble_eq_true rfl) ?_
  intro p l e s m args below meth c D cA B Hb C hin
  unfold f_X3_costs at hf0
  refine r_iconst (v := 0) C dX3_costs_0 (by decide) ?_
  refine r_istore_n (lv' := [(1, .int (0 : Int32)), (0, .ref v0)]) C dX3_costs_1 (by decide) rfl rfl ?_
  refine r_iconst (v := 0) C dX3_costs_2 (by decide) ?_
  refine r_istore_n (lv' := [(2, .int (0 : Int32)), (1, .int (0 : Int32)), (0, .ref v0)]) C dX3_costs_3 (by decide) rfl rfl ?_
  obtain ⟨y1, hl4, hf0⟩ := ob hf0
  have L4 : ∀ (n : Nat) (t2 : Int32) (t3 : Int32), whileL n (fun q : Int32 × Int32 => f_X3_costs_b4 h v0 q.1 q.2) (t2, t3) = some y1 → gW p l e (rmO 0 0 0) s m args below meth c (MQ below (eQ D cA B Hb h (some (.int out))) args s 0 0 (fun q => B ≤ q)) D cA B Hb 4 h 4 [(0, .ref v0), (1, .int t2), (2, .int t3)] [] 0 0 := by
    intro n
    induction n with
    | zero => intro t2 t3 hz; cases hz
    | succ n ih4 =>
      intro t2 t3 hz
      obtain ⟨x4, hf1, hk4⟩ := wl hz
      replace hf1 : f_X3_costs_b4 h v0 t2 t3 = some x4 := hf1
      unfold f_X3_costs_b4 at hf1
      refine r_iload_n C dX3_costs_4 rfl ?_
      refine r_aload_n C dX3_costs_5 rfl ?_
      obtain ⟨t4, e5, hf1⟩ := ob hf1
      refine r_getR C fk_X3_12 rfl dX3_costs_6 e5 ?_
      obtain ⟨t6, e7, hf1⟩ := ob hf1
      refine r_getI C fk_X3_42 rfl dX3_costs_9 e7 ?_
      refine r_icmp_ge (tgt := 77) C dX3_costs_12 (by decide) (fun c8 => ?_) (fun c8 => ?_)
      · rw [if_pos c8] at hf1
        obtain rfl := so hf1
        obtain rfl := so (show some t2 = some y1 from hk4)
        refine r_iload_n C dX3_costs_77 rfl ?_
        obtain rfl := so hf0
        exact r_iret C dX3_costs_78
      · rw [if_neg c8] at hf1
        refine r_aload_n C dX3_costs_15 rfl ?_
        obtain ⟨t9, e10, hf1⟩ := ob hf1
        refine r_getR C fk_X3_12 rfl dX3_costs_16 e10 ?_
        obtain ⟨t11, e12, hf1⟩ := ob hf1
        refine r_getR C fk_X3_87 rfl dX3_costs_19 e12 ?_
        refine r_iload_n C dX3_costs_22 rfl ?_
        obtain ⟨t13, e14, hf1⟩ := ob hf1
        refine r_ldI C dX3_costs_23 e14 ?_
        refine r_iconst (v := 1) C dX3_costs_24 (by decide) ?_
        refine r_iand C dX3_costs_25 ?_
        refine r_iconst (v := 1) C dX3_costs_26 (by decide) ?_
        refine r_iadd C dX3_costs_27 ?_
        obtain ⟨t15, e16, hf1⟩ := ob hf1
        refine r_istore_n (lv' := [(3, .int t15), (0, .ref v0), (1, .int t2), (2, .int t3)]) C dX3_costs_28 (by decide) e16 rfl ?_
        refine r_iload_n C dX3_costs_29 rfl ?_
        refine r_aload_n C dX3_costs_30 rfl ?_
        obtain ⟨t17, e18, hf1⟩ := ob hf1
        refine r_getR C fk_X3_35 rfl dX3_costs_31 e18 ?_
        obtain ⟨t19, e20, hf1⟩ := ob hf1
        refine r_getR C fk_X3_116 rfl dX3_costs_34 e20 ?_
        refine r_aload_n C dX3_costs_37 rfl ?_
        obtain ⟨t21, e22, hf1⟩ := ob hf1
        refine r_getR C fk_X3_12 rfl dX3_costs_38 e22 ?_
        obtain ⟨t23, e24, hf1⟩ := ob hf1
        refine r_getR C fk_X3_70 rfl dX3_costs_41 e24 ?_
        refine r_iload_n C dX3_costs_44 rfl ?_
        obtain ⟨t25, e26, hf1⟩ := ob hf1
        refine r_ldI C dX3_costs_45 e26 ?_
        obtain ⟨t27, e28, hf1⟩ := ob hf1
        refine r_ldI C dX3_costs_46 e28 ?_
        refine r_iload_n C dX3_costs_47 rfl ?_
        refine r_aload_n C dX3_costs_48 rfl ?_
        obtain ⟨t29, e30, hf1⟩ := ob hf1
        refine r_getR C fk_X3_35 rfl dX3_costs_49 e30 ?_
        obtain ⟨t31, e32, hf1⟩ := ob hf1
        refine r_getR C fk_X3_116 rfl dX3_costs_52 e32 ?_
        refine r_aload_n C dX3_costs_55 rfl ?_
        obtain ⟨t33, e34, hf1⟩ := ob hf1
        refine r_getR C fk_X3_12 rfl dX3_costs_56 e34 ?_
        obtain ⟨t35, e36, hf1⟩ := ob hf1
        refine r_getR C fk_X3_87 rfl dX3_costs_59 e36 ?_
        refine r_iload_n C dX3_costs_62 rfl ?_
        obtain ⟨t37, e38, hf1⟩ := ob hf1
        refine r_ldI C dX3_costs_63 e38 ?_
        refine r_iconst (v := 1) C dX3_costs_64 (by decide) ?_
        refine r_ishr C dX3_costs_65 ?_
        obtain ⟨t39, e40, hf1⟩ := ob hf1
        refine r_ldI C dX3_costs_66 e40 ?_
        refine r_imul C dX3_costs_67 ?_
        refine r_iadd C dX3_costs_68 ?_
        refine r_iadd C dX3_costs_69 ?_
        obtain ⟨t41, e42, hf1⟩ := ob hf1
        refine r_istore_n (lv' := [(1, .int t41), (3, .int t15), (0, .ref v0), (2, .int t3)]) C dX3_costs_70 (by decide) e42 rfl ?_
        obtain ⟨t43, e44, hf1⟩ := ob hf1
        refine r_iinc (lv' := [(2, .int t43), (1, .int t41), (3, .int t15), (0, .ref v0)]) C dX3_costs_71 rfl e44 (by decide) rfl ?_
        refine r_goto (tgt := 4) C dX3_costs_74 (by decide) ?_
        obtain rfl := so hf1
        refine r_subk [3, 1, 0] (lv' := [(0, .ref v0), (1, .int t41), (2, .int t43)]) rfl ?_
        exact ih4 t41 t43 hk4
  refine r_subk [2, 1, 0] (lv' := [(0, .ref v0), (1, .int (0 : Int32)), (2, .int (0 : Int32))]) rfl ?_
  exact L4 wN (0 : Int32) (0 : Int32) hl4
def f_X3_mostLeftBehind_j105 (h : aH) (v0 : Nat) (v1 : Int32) (v2 : Int32) (v3 : Int32) (v4 : Int32) (v5 : Int32) (v6 : Int32) (v7 : Int32) : Option ((Int32 × Int32 × Int32 × aH) ⊕ (aH)) := (some (v5 >>> ((5 : Int32) &&& 31))).bind fun t11 => (some (v7 + (1 : Int32))).bind fun t12 => some (.inl (t11, v6, t12, h))
def f_X3_mostLeftBehind_b54 (v0 : Nat) (v1 : Int32) (v2 : Int32) (v3 : Int32) (v4 : Int32) (v5 : Int32) (v6 : Int32) (v7 : Int32) (h : aH) : Option ((Int32 × Int32 × Int32 × aH) ⊕ (aH)) := if (4 : Int32) ≤ v7 then some (.inr h) else (some (v5 &&& (31 : Int32))).bind fun t13 => if (((v4 >>> (v7 &&& 31)) &&& (1 : Int32)) &&& ((v6 >>> (t13 &&& 31)) ^^^ (-1 : Int32))) = 0 then f_X3_mostLeftBehind_j105 h v0 v1 v2 v3 v4 v5 v6 v7 else (some (v6 ||| ((1 : Int32) <<< (t13 &&& 31)))).bind fun t14 => (gR h 3 v0 3).bind fun t15 => (lI h t15 t13).bind fun t16 => (sI h t15 t13 (t16 + (1 : Int32))).bind fun h17 => f_X3_mostLeftBehind_j105 h17 v0 v1 v2 v3 v4 v5 t14 v7
def f_X3_mostLeftBehind_l54 (v0 : Nat) (v1 : Int32) (v2 : Int32) (v3 : Int32) (v4 : Int32) (v5 : Int32) (v6 : Int32) (v7 : Int32) (h : aH) : Option (aH) := whileL wN (fun q : Int32 × Int32 × Int32 × aH => f_X3_mostLeftBehind_b54 v0 v1 v2 v3 v4 q.1 q.2.1 q.2.2.1 q.2.2.2) (v5, v6, v7, h)
def f_X3_mostLeftBehind_b10 (v0 : Nat) (v1 : Int32) (v2 : Int32) (v3 : Int32) (h : aH) : Option ((Int32 × aH) ⊕ (aH)) := (gI h 3 v0 5).bind fun t3 => if t3 ≤ v3 then some (.inr h) else (gR h 3 v0 2).bind fun t4 => (lI h t4 v3).bind fun t5 => (ck h 3 v0).bind fun _ => (f_X3_kindsLeft h v0 v1 t5).bind fun t6 => (gR h 3 v0 4).bind fun t7 => (gR h 3 v0 2).bind fun t8 => (lI h t8 v3).bind fun t9 => (ck h 1 t7).bind fun _ => (f_X1_packedAnswers h t7 v1 v2 t9).bind fun t10 => (f_X3_mostLeftBehind_l54 v0 v1 v2 v3 t6 t10 (0 : Int32) (0 : Int32) h).bind fun h18 => (some (v3 + (1 : Int32))).bind fun t19 => some (.inl (t19, h18))
def f_X3_mostLeftBehind_l10 (v0 : Nat) (v1 : Int32) (v2 : Int32) (v3 : Int32) (h : aH) : Option (aH) := whileL wN (fun q : Int32 × aH => f_X3_mostLeftBehind_b10 v0 v1 v2 q.1 q.2) (v3, h)
def f_X3_mostLeftBehind_b128 (h : aH) (v0 : Nat) (v3 : Int32) (v4 : Int32) : Option ((Int32 × Int32) ⊕ (Int32)) := if (24 : Int32) ≤ v4 then some (.inr v3) else (gR h 3 v0 3).bind fun t21 => (lI h t21 v4).bind fun t22 => (some (mxI v3 t22)).bind fun t23 => (some (v4 + (1 : Int32))).bind fun t24 => some (.inl (t23, t24))
def f_X3_mostLeftBehind_l128 (h : aH) (v0 : Nat) (v3 : Int32) (v4 : Int32) : Option (Int32) := whileL wN (fun q : Int32 × Int32 => f_X3_mostLeftBehind_b128 h v0 q.1 q.2) (v3, v4)
def f_X3_mostLeftBehind (h : aH) (v0 : Nat) (v1 : Int32) (v2 : Int32) : Option (Int32 × aH) := (gR h 3 v0 3).bind fun t1 => (f_J7_fill_53178 h t1 (0 : Int32)).bind fun h2 => (f_X3_mostLeftBehind_l10 v0 v1 v2 (0 : Int32) h2).bind fun h20 => (f_X3_mostLeftBehind_l128 h20 v0 (0 : Int32) (0 : Int32)).bind fun t25 => some (t25, h20)
theorem s_X3_mostLeftBehind {h : aH} {v0 : Nat} {v1 : Int32} {v2 : Int32} {out : Int32 × aH} (hf0 : f_X3_mostLeftBehind h v0 v1 v2 = some out) : EV 1 yX3_mostLeftBehind cX3_mostLeftBehind 9 (some .int) h [.ref v0, .int v1, .int v2] (some (.int out.1)) out.2 0 0 := by
  refine EV.of (own := RX3) (lv0 := [(0, .ref v0), (1, .int v1), (2, .int v2)]) (by decide +kernel) rfl rfl (Nat.le_of_ble_eq_true rfl) ?_
  intro p l e s m args below meth c D cA B Hb C hin
  unfold f_X3_mostLeftBehind at hf0
  refine r_aload_n C dX3_mostLeftBehind_0 rfl ?_
  obtain ⟨t1, e2, hf0⟩ := ob hf0
  refine r_getR C fk_X3_25 rfl dX3_mostLeftBehind_1 e2 ?_
  refine r_iconst (v := 0) C dX3_mostLeftBehind_4 (by decide) ?_
  obtain ⟨h3, e4, hf0⟩ := ob hf0
  refine r_cS (rest := []) (st2 := []) C (s_J7_fill_53178 e4) mk_J7_fill_53178 sm_J7_fill_53178 lk_X3_119 rfl rfl rfl dX3_mostLeftBehind_5 (Nat.le_of_ble_eq_true rfl) ⟨Nat.le_of_ble_eq_true rfl, Nat.le_of_ble_eq_true rfl⟩ ⟨Nat.le_of_ble_eq_true rfl, Nat.le_of_ble_eq_true rfl⟩ ?_
  refine r_iconst (v := 0) C dX3_mostLeftBehind_8 (by decide) ?_
  refine r_istore_n (lv' := [(3, .int (0 : Int32)), (0, .ref v0), (1, .int v1), (2, .int v2)]) C dX3_mostLeftBehind_9 (by decide) rfl rfl ?_
  obtain ⟨y5, hl10, hf0⟩ := ob hf0
  have L10 : ∀ (n : Nat) (t6 : Int32) (h7 : aH), whileL n (fun q : Int32 × aH => f_X3_mostLeftBehind_b10 v0 v1 v2 q.1 q.2) (t6, h7) = some y5 → gW p l e (rmO 1 0 0) s m args below meth c (MQ below (eQ D cA B Hb out.2 (some (.int out.1))) args s 0 0 (fun q => B ≤ q)) D cA B Hb 9 h7 10 [(0, .ref v0), (1, .int v1), (2, .int v2), (3, .int t6)] [] 0 0 := by
    intro n
    induction n with
    | zero => intro t6 h7 hz; cases hz
    | succ n ih10 =>
      intro t6 h7 hz
      obtain ⟨x10, hf1, hk10⟩ := wl hz
      replace hf1 : f_X3_mostLeftBehind_b10 v0 v1 v2 t6 h7 = some x10 := hf1
      unfold f_X3_mostLeftBehind_b10 at hf1
      refine r_iload_n C dX3_mostLeftBehind_10 rfl ?_
      refine r_aload_n C dX3_mostLeftBehind_11 rfl ?_
      obtain ⟨t8, e9, hf1⟩ := ob hf1
      refine r_getI C fk_X3_28 rfl dX3_mostLeftBehind_12 e9 ?_
      refine r_icmp_ge (tgt := 123) C dX3_mostLeftBehind_15 (by decide) (fun c10 => ?_) (fun c10 => ?_)
      · rw [if_pos c10] at hf1
        obtain rfl := so hf1
        obtain rfl := so (show some h7 = some y5 from hk10)
        refine r_iconst (v := 0) C dX3_mostLeftBehind_123 (by decide) ?_
        refine r_istore_n (lv' := [(3, .int (0 : Int32)), (0, .ref v0), (1, .int v1), (2, .int v2)]) C dX3_mostLeftBehind_124 (by decide) rfl rfl ?_
        refine r_iconst (v := 0) C dX3_mostLeftBehind_125 (by decide) ?_
        refine r_istore (lv' := [(4, .int (0 : Int32)), (3, .int (0 : Int32)), (0, .ref v0), (1, .int v1), (2, .int v2)]) C dX3_mostLeftBehind_126 (by decide) rfl rfl ?_
        obtain ⟨y11, hl128, hf0⟩ := ob hf0
        have L128 : ∀ (n : Nat) (t12 : Int32) (t13 : Int32), whileL n (fun q : Int32 × Int32 => f_X3_mostLeftBehind_b128 h7 v0 q.1 q.2) (t12, t13) = some y11 → gW p l e (rmO 1 0 0) s m args below meth c (MQ below (eQ D cA B Hb out.2 (some (.int out.1))) args s 0 0 (fun q => B ≤ q)) D cA B Hb 9 h7 128 [(0, .ref v0), (3, .int t12), (4, .int t13)] [] 0 0 := by
          intro n
          induction n with
          | zero => intro t12 t13 hz; cases hz
          | succ n ih128 =>
            intro t12 t13 hz
            obtain ⟨x128, hf1, hk128⟩ := wl hz
            replace hf1 : f_X3_mostLeftBehind_b128 h7 v0 t12 t13 = some x128 := hf1
            unfold f_X3_mostLeftBehind_b128 at hf1
            refine r_iload C dX3_mostLeftBehind_128 rfl ?_
            refine r_bipush (v := 24) C dX3_mostLeftBehind_130 (by decide) ?_
            refine r_icmp_ge (tgt := 153) C dX3_mostLeftBehind_132 (by decide) (fun c14 => ?_) (fun c14 => ?_)
            · rw [if_pos c14] at hf1
              obtain rfl := so hf1
              obtain rfl := so (show some t12 = some y11 from hk128)
              refine r_iload_n C dX3_mostLeftBehind_153 rfl ?_
              obtain rfl := so hf0
              exact r_iret C dX3_mostLeftBehind_154
            · rw [if_neg c14] at hf1
              refine r_iload_n C dX3_mostLeftBehind_135 rfl ?_
              refine r_aload_n C dX3_mostLeftBehind_136 rfl ?_
              obtain ⟨t15, e16, hf1⟩ := ob hf1
              refine r_getR C fk_X3_25 rfl dX3_mostLeftBehind_137 e16 ?_
              refine r_iload C dX3_mostLeftBehind_140 rfl ?_
              obtain ⟨t17, e18, hf1⟩ := ob hf1
              refine r_ldI C dX3_mostLeftBehind_142 e18 ?_
              refine r_mmax C lk_X3_125 dX3_mostLeftBehind_143 ⟨Nat.le_of_ble_eq_true rfl, Nat.le_of_ble_eq_true rfl⟩ (Nat.le_of_ble_eq_true rfl) ⟨Nat.le_of_ble_eq_true rfl, Nat.le_of_ble_eq_true rfl⟩ ?_
              obtain ⟨t19, e20, hf1⟩ := ob hf1
              refine r_istore_n (lv' := [(3, .int t19), (0, .ref v0), (4, .int t13)]) C dX3_mostLeftBehind_146 (by decide) e20 rfl ?_
              obtain ⟨t21, e22, hf1⟩ := ob hf1
              refine r_iinc (lv' := [(4, .int t21), (3, .int t19), (0, .ref v0)]) C dX3_mostLeftBehind_147 rfl e22 (by decide) rfl ?_
              refine r_goto (tgt := 128) C dX3_mostLeftBehind_150 (by decide) ?_
              obtain rfl := so hf1
              refine r_subk [2, 1, 0] (lv' := [(0, .ref v0), (3, .int t19), (4, .int t21)]) rfl ?_
              exact ih128 t19 t21 hk128
        refine r_subk [2, 1, 0] (lv' := [(0, .ref v0), (3, .int (0 : Int32)), (4, .int (0 : Int32))]) rfl ?_
        exact L128 wN (0 : Int32) (0 : Int32) hl128
      · rw [if_neg c10] at hf1
        refine r_aload_n C dX3_mostLeftBehind_18 rfl ?_
        refine r_iload_n C dX3_mostLeftBehind_19 rfl ?_
        refine r_aload_n C dX3_mostLeftBehind_20 rfl ?_
        obtain ⟨t23, e24, hf1⟩ := ob hf1
        refine r_getR C fk_X3_22 rfl dX3_mostLeftBehind_21 e24 ?_
        refine r_iload_n C dX3_mostLeftBehind_24 rfl ?_
        obtain ⟨t25, e26, hf1⟩ := ob hf1
        refine r_ldI C dX3_mostLeftBehind_25 e26 ?_
        obtain ⟨u28, e27, hf1⟩ := ob hf1
        obtain ⟨t29, e30, hf1⟩ := ob hf1
        refine r_cV (ci := 3) (rest := []) (st2 := [.int t29]) C (s_X3_kindsLeft e30) mk_X3_kindsLeft rfl (ck_k e27) (by decide) im_X3_kindsLeft sl_X3_kindsLeft lk_X3_80 rfl rfl rfl dX3_mostLeftBehind_26 (Nat.le_of_ble_eq_true rfl) ⟨Nat.le_of_ble_eq_true rfl, Nat.le_of_ble_eq_true rfl⟩ ⟨Nat.le_of_ble_eq_true rfl, Nat.le_of_ble_eq_true rfl⟩ ?_
        refine r_istore (lv' := [(4, .int t29), (0, .ref v0), (1, .int v1), (2, .int v2), (3, .int t6)]) C dX3_mostLeftBehind_29 (by decide) rfl rfl ?_
        refine r_aload_n C dX3_mostLeftBehind_31 rfl ?_
        obtain ⟨t31, e32, hf1⟩ := ob hf1
        refine r_getR C fk_X3_35 rfl dX3_mostLeftBehind_32 e32 ?_
        refine r_iload_n C dX3_mostLeftBehind_35 rfl ?_
        refine r_iload_n C dX3_mostLeftBehind_36 rfl ?_
        refine r_aload_n C dX3_mostLeftBehind_37 rfl ?_
        obtain ⟨t33, e34, hf1⟩ := ob hf1
        refine r_getR C fk_X3_22 rfl dX3_mostLeftBehind_38 e34 ?_
        refine r_iload_n C dX3_mostLeftBehind_41 rfl ?_
        obtain ⟨t35, e36, hf1⟩ := ob hf1
        refine r_ldI C dX3_mostLeftBehind_42 e36 ?_
        obtain ⟨u38, e37, hf1⟩ := ob hf1
        obtain ⟨t39, e40, hf1⟩ := ob hf1
        refine r_cV (ci := 1) (rest := []) (st2 := [.int t39]) C (s_X1_packedAnswers e40) mk_X1_packedAnswers rfl (ck_k e37) (by decide) im_X1_packedAnswers sl_X1_packedAnswers lk_X3_83 rfl rfl rfl dX3_mostLeftBehind_43 (Nat.le_of_ble_eq_true rfl) ⟨Nat.le_of_ble_eq_true rfl, Nat.le_of_ble_eq_true rfl⟩ ⟨Nat.le_of_ble_eq_true rfl, Nat.le_of_ble_eq_true rfl⟩ ?_
        refine r_istore (lv' := [(5, .int t39), (4, .int t29), (0, .ref v0), (1, .int v1), (2, .int v2), (3, .int t6)]) C dX3_mostLeftBehind_46 (by decide) rfl rfl ?_
        refine r_iconst (v := 0) C dX3_mostLeftBehind_48 (by decide) ?_
        refine r_istore (lv' := [(6, .int (0 : Int32)), (5, .int t39), (4, .int t29), (0, .ref v0), (1, .int v1), (2, .int v2), (3, .int t6)]) C dX3_mostLeftBehind_49 (by decide) rfl rfl ?_
        refine r_iconst (v := 0) C dX3_mostLeftBehind_51 (by decide) ?_
        refine r_istore (lv' := [(7, .int (0 : Int32)), (6, .int (0 : Int32)), (5, .int t39), (4, .int t29), (0, .ref v0), (1, .int v1), (2, .int v2), (3, .int t6)]) C dX3_mostLeftBehind_52 (by decide) rfl rfl ?_
        obtain ⟨y41, hl54, hf1⟩ := ob hf1
        have L54 : ∀ (n : Nat) (t42 : Int32) (t43 : Int32) (t44 : Int32) (h45 : aH), whileL n (fun q : Int32 × Int32 × Int32 × aH => f_X3_mostLeftBehind_b54 v0 v1 v2 t6 t29 q.1 q.2.1 q.2.2.1 q.2.2.2) (t42, t43, t44, h45) = some y41 → gW p l e (rmO 1 0 0) s m args below meth c (MQ below (eQ D cA B Hb out.2 (some (.int out.1))) args s 0 0 (fun q => B ≤ q)) D cA B Hb 9 h45 54 [(0, .ref v0), (1, .int v1), (2, .int v2), (3, .int t6), (4, .int t29), (5, .int t42), (6, .int t43), (7, .int t44)] [] 0 0 := by
          intro n
          induction n with
          | zero => intro t42 t43 t44 h45 hz; cases hz
          | succ n ih54 =>
            intro t42 t43 t44 h45 hz
            obtain ⟨x54, hf2, hk54⟩ := wl hz
            replace hf2 : f_X3_mostLeftBehind_b54 v0 v1 v2 t6 t29 t42 t43 t44 h45 = some x54 := hf2
            unfold f_X3_mostLeftBehind_b54 at hf2
            have J105 : ∀ (h46 : aH) (t47 : Int32) (t48 : Int32) (t49 : Int32), f_X3_mostLeftBehind_j105 h46 v0 v1 v2 t6 t29 t47 t48 t49 = some x54 → gW p l e (rmO 1 0 0) s m args below meth c (MQ below (eQ D cA B Hb out.2 (some (.int out.1))) args s 0 0 (fun q => B ≤ q)) D cA B Hb 9 h46 105 [(0, .ref v0), (1, .int v1), (2, .int v2), (3, .int t6), (4, .int t29), (5, .int t47), (6, .int t48), (7, .int t49)] [] 0 0 := by
              intro h46 t47 t48 t49 hf2
              unfold f_X3_mostLeftBehind_j105 at hf2
              refine r_iload C dX3_mostLeftBehind_105 rfl ?_
              refine r_iconst (v := 5) C dX3_mostLeftBehind_107 (by decide) ?_
              refine r_ishr C dX3_mostLeftBehind_108 ?_
              obtain ⟨t50, e51, hf2⟩ := ob hf2
              refine r_istore (lv' := [(5, .int t50), (0, .ref v0), (1, .int v1), (2, .int v2), (3, .int t6), (4, .int t29), (6, .int t48), (7, .int t49)]) C dX3_mostLeftBehind_109 (by decide) e51 rfl ?_
              obtain ⟨t52, e53, hf2⟩ := ob hf2
              refine r_iinc (lv' := [(7, .int t52), (5, .int t50), (0, .ref v0), (1, .int v1), (2, .int v2), (3, .int t6), (4, .int t29), (6, .int t48)]) C dX3_mostLeftBehind_111 rfl e53 (by decide) rfl ?_
              refine r_goto (tgt := 54) C dX3_mostLeftBehind_114 (by decide) ?_
              obtain rfl := so hf2
              refine r_subk [2, 3, 4, 5, 6, 1, 7, 0] (lv' := [(0, .ref v0), (1, .int v1), (2, .int v2), (3, .int t6), (4, .int t29), (5, .int t50), (6, .int t48), (7, .int t52)]) rfl ?_
              exact ih54 t50 t48 t52 h46 hk54
            refine r_iload C dX3_mostLeftBehind_54 rfl ?_
            refine r_iconst (v := 4) C dX3_mostLeftBehind_56 (by decide) ?_
            refine r_icmp_ge (tgt := 117) C dX3_mostLeftBehind_57 (by decide) (fun c54 => ?_) (fun c54 => ?_)
            · rw [if_pos c54] at hf2
              obtain rfl := so hf2
              obtain rfl := so (show some h45 = some y41 from hk54)
              obtain ⟨t55, e56, hf1⟩ := ob hf1
              refine r_iinc (lv' := [(3, .int t55), (0, .ref v0), (1, .int v1), (2, .int v2), (4, .int t29), (5, .int t42), (6, .int t43), (7, .int t44)]) C dX3_mostLeftBehind_117 rfl e56 (by decide) rfl ?_
              refine r_goto (tgt := 10) C dX3_mostLeftBehind_120 (by decide) ?_
              obtain rfl := so hf1
              refine r_subk [1, 2, 3, 0] (lv' := [(0, .ref v0), (1, .int v1), (2, .int v2), (3, .int t55)]) rfl ?_
              exact ih10 t55 h45 hk10
            · rw [if_neg c54] at hf2
              refine r_iload C dX3_mostLeftBehind_60 rfl ?_
              refine r_bipush (v := 31) C dX3_mostLeftBehind_62 (by decide) ?_
              refine r_iand C dX3_mostLeftBehind_64 ?_
              obtain ⟨t57, e58, hf2⟩ := ob hf2
              refine r_istore (lv' := [(8, .int t57), (0, .ref v0), (1, .int v1), (2, .int v2), (3, .int t6), (4, .int t29), (5, .int t42), (6, .int t43), (7, .int t44)]) C dX3_mostLeftBehind_65 (by decide) e58 rfl ?_
              refine r_iload C dX3_mostLeftBehind_67 rfl ?_
              refine r_iload C dX3_mostLeftBehind_69 rfl ?_
              refine r_ishr C dX3_mostLeftBehind_71 ?_
              refine r_iconst (v := 1) C dX3_mostLeftBehind_72 (by decide) ?_
              refine r_iand C dX3_mostLeftBehind_73 ?_
              refine r_iload C dX3_mostLeftBehind_74 rfl ?_
              refine r_iload C dX3_mostLeftBehind_76 rfl ?_
              refine r_ishr C dX3_mostLeftBehind_78 ?_
              refine r_iconst (v := -1) C dX3_mostLeftBehind_79 (by decide) ?_
              refine r_ixor C dX3_mostLeftBehind_80 ?_
              refine r_iand C dX3_mostLeftBehind_81 ?_
              refine r_ifeq (tgt := 105) C dX3_mostLeftBehind_82 (by decide) (fun c59 => ?_) (fun c59 => ?_)
              · rw [if_pos c59] at hf2
                refine r_subk [1, 2, 3, 4, 5, 6, 7, 8] (lv' := [(0, .ref v0), (1, .int v1), (2, .int v2), (3, .int t6), (4, .int t29), (5, .int t42), (6, .int t43), (7, .int t44)]) rfl ?_
                exact J105 h45 t42 t43 t44 hf2
              · rw [if_neg c59] at hf2
                refine r_iload C dX3_mostLeftBehind_85 rfl ?_
                refine r_iconst (v := 1) C dX3_mostLeftBehind_87 (by decide) ?_
                refine r_iload C dX3_mostLeftBehind_88 rfl ?_
                refine r_ishl C dX3_mostLeftBehind_90 ?_
                refine r_ior C dX3_mostLeftBehind_91 ?_
                obtain ⟨t60, e61, hf2⟩ := ob hf2
                refine r_istore (lv' := [(6, .int t60), (8, .int t57), (0, .ref v0), (1, .int v1), (2, .int v2), (3, .int t6), (4, .int t29), (5, .int t42), (7, .int t44)]) C dX3_mostLeftBehind_92 (by decide) e61 rfl ?_
                refine r_aload_n C dX3_mostLeftBehind_94 rfl ?_
                obtain ⟨t62, e63, hf2⟩ := ob hf2
                refine r_getR C fk_X3_25 rfl dX3_mostLeftBehind_95 e63 ?_
                refine r_iload C dX3_mostLeftBehind_98 rfl ?_
                refine r_dup2 C dX3_mostLeftBehind_100 rfl rfl ?_
                obtain ⟨t64, e65, hf2⟩ := ob hf2
                refine r_ldI C dX3_mostLeftBehind_101 e65 ?_
                refine r_iconst (v := 1) C dX3_mostLeftBehind_102 (by decide) ?_
                refine r_iadd C dX3_mostLeftBehind_103 ?_
                obtain ⟨h66, e67, hf2⟩ := ob hf2
                refine r_stI C dX3_mostLeftBehind_104 e67 ?_
                refine r_subk [2, 3, 4, 5, 6, 7, 0, 8] (lv' := [(0, .ref v0), (1, .int v1), (2, .int v2), (3, .int t6), (4, .int t29), (5, .int t42), (6, .int t60), (7, .int t44)]) rfl ?_
                exact J105 h66 t42 t60 t44 hf2
        refine r_subk [4, 5, 6, 7, 3, 2, 1, 0] (lv' := [(0, .ref v0), (1, .int v1), (2, .int v2), (3, .int t6), (4, .int t29), (5, .int t39), (6, .int (0 : Int32)), (7, .int (0 : Int32))]) rfl ?_
        exact L54 wN t39 (0 : Int32) (0 : Int32) h7 hl54
  refine r_subk [1, 2, 3, 0] (lv' := [(0, .ref v0), (1, .int v1), (2, .int v2), (3, .int (0 : Int32))]) rfl ?_
  exact L10 wN (0 : Int32) h3 hl10
def f_X3_bestFor_j58 (h : aH) (v0 : Nat) (v1 : Int32) (v2 : Int32) (v3 : Int32) (v4 : Int32) : Option ((Int32 × Int32 × Int32 × aH) ⊕ (Int32 × aH)) := (some (v4 + (1 : Int32))).bind fun t1 => some (.inl (v2, v3, t1, h))
def f_X3_bestFor_b9 (v0 : Nat) (v1 : Int32) (v2 : Int32) (v3 : Int32) (v4 : Int32) (h : aH) : Option ((Int32 × Int32 × Int32 × aH) ⊕ (Int32 × aH)) := (gR h 3 v0 4).bind fun t2 => (gI h 1 t2 16).bind fun t3 => if t3 ≤ v4 then some (.inr (v2, h)) else (gI h 3 v0 5).bind fun t4 => if t4 ≤ 0 then some (.inr (v2, h)) else (ck h 3 v0).bind fun _ => (f_X3_wasPut h v0 v4).bind fun t5 => if t5 = 0 then (ck h 3 v0).bind fun _ => bd2 (f_X3_mostLeftBehind h v0 v1 v4) fun t6 h7 => if v3 ≤ t6 then f_X3_bestFor_j58 h7 v0 v1 v2 v3 v4 else f_X3_bestFor_j58 h7 v0 v1 v4 t6 v4 else f_X3_bestFor_j58 h v0 v1 v2 v3 v4
def f_X3_bestFor_l9 (v0 : Nat) (v1 : Int32) (v2 : Int32) (v3 : Int32) (v4 : Int32) (h : aH) : Option (Int32 × aH) := whileL wN (fun q : Int32 × Int32 × Int32 × aH => f_X3_bestFor_b9 v0 v1 q.1 q.2.1 q.2.2.1 q.2.2.2) (v2, v3, v4, h)
def f_X3_bestFor (h : aH) (v0 : Nat) (v1 : Int32) : Option (Int32 × aH) := bd2 (f_X3_bestFor_l9 v0 v1 (-1 : Int32) (257 : Int32) (0 : Int32) h) fun t8 h9 => some (t8, h9)
theorem s_X3_bestFor {h : aH} {v0 : Nat} {v1 : Int32} {out : Int32 × aH} (hf0 : f_X3_bestFor h v0 v1 = some out) : EV 2 yX3_bestFor cX3_bestFor 6 (some .int) h [.ref v0, .int v1] (some (.int out.1)) out.2 0 0 := by
  refine EV.of (own := RX3) (lv0 := [(0, .ref v0), (1, .int v1)]) (by decide +kernel) rfl rfl (Nat.le_of_ble_eq_true rfl) ?_
  intro p l e s m args below meth c D cA B Hb C hin
  unfold f_X3_bestFor at hf0
  refine r_iconst (v := -1) C dX3_bestFor_0 (by decide) ?_
  refine r_istore_n (lv' := [(2, .int (-1 : Int32)), (0, .ref v0), (1, .int v1)]) C dX3_bestFor_1 (by decide) rfl rfl ?_
  refine r_sipush (v := 257) C dX3_bestFor_2 (by decide) ?_
  refine r_istore_n (lv' := [(3, .int (257 : Int32)), (2, .int (-1 : Int32)), (0, .ref v0), (1, .int v1)]) C dX3_bestFor_5 (by decide) rfl rfl ?_
  refine r_iconst (v := 0) C dX3_bestFor_6 (by decide) ?_
  refine r_istore (lv' := [(4, .int (0 : Int32)), (3, .int (257 : Int32)), (2, .int (-1 : Int32)), (0, .ref v0), (1, .int v1)]) C dX3_bestFor_7 (by decide) rfl rfl ?_
  obtain ⟨y1, y2, hl9, hf0⟩ := ob2 hf0
  have L9 : ∀ (n : Nat) (t3 : Int32) (t4 : Int32) (t5 : Int32) (h6 : aH), whileL n (fun q : Int32 × Int32 × Int32 × aH => f_X3_bestFor_b9 v0 v1 q.1 q.2.1 q.2.2.1 q.2.2.2) (t3, t4, t5, h6) = some (y1, y2) → gW p l e (rmO 2 0 0) s m args below meth c (MQ below (eQ D cA B Hb out.2 (some (.int out.1))) args s 0 0 (fun q => B ≤ q)) D cA B Hb 6 h6 9 [(0, .ref v0), (1, .int v1), (2, .int t3), (3, .int t4), (4, .int t5)] [] 0 0 := by
    intro n
    induction n with
    | zero => intro t3 t4 t5 h6 hz; cases hz
    | succ n ih9 =>
      intro t3 t4 t5 h6 hz
      obtain ⟨x9, hf1, hk9⟩ := wl hz
      replace hf1 : f_X3_bestFor_b9 v0 v1 t3 t4 t5 h6 = some x9 := hf1
      unfold f_X3_bestFor_b9 at hf1
      have J58 : ∀ (h7 : aH) (t8 : Int32) (t9 : Int32) (t10 : Int32), f_X3_bestFor_j58 h7 v0 v1 t8 t9 t10 = some x9 → gW p l e (rmO 2 0 0) s m args below meth c (MQ below (eQ D cA B Hb out.2 (some (.int out.1))) args s 0 0 (fun q => B ≤ q)) D cA B Hb 6 h7 58 [(0, .ref v0), (1, .int v1), (2, .int t8), (3, .int t9), (4, .int t10)] [] 0 0 := by
        intro h7 t8 t9 t10 hf1
        unfold f_X3_bestFor_j58 at hf1
        obtain ⟨t11, e12, hf1⟩ := ob hf1
        refine r_iinc (lv' := [(4, .int t11), (0, .ref v0), (1, .int v1), (2, .int t8), (3, .int t9)]) C dX3_bestFor_58 rfl e12 (by decide) rfl ?_
        refine r_goto (tgt := 9) C dX3_bestFor_61 (by decide) ?_
        obtain rfl := so hf1
        refine r_subk [1, 2, 3, 4, 0] (lv' := [(0, .ref v0), (1, .int v1), (2, .int t8), (3, .int t9), (4, .int t11)]) rfl ?_
        exact ih9 t8 t9 t11 h7 hk9
      refine r_iload C dX3_bestFor_9 rfl ?_
      refine r_aload_n C dX3_bestFor_11 rfl ?_
      obtain ⟨t13, e14, hf1⟩ := ob hf1
      refine r_getR C fk_X3_35 rfl dX3_bestFor_12 e14 ?_
      obtain ⟨t15, e16, hf1⟩ := ob hf1
      refine r_getI C fk_X3_130 rfl dX3_bestFor_15 e16 ?_
      refine r_icmp_ge (tgt := 64) C dX3_bestFor_18 (by decide) (fun c17 => ?_) (fun c17 => ?_)
      · rw [if_pos c17] at hf1
        obtain rfl := so hf1
        obtain ⟨rfl, rfl⟩ := so2 (show some (t3, h6) = some (y1, y2) from hk9)
        refine r_iload_n C dX3_bestFor_64 rfl ?_
        obtain rfl := so hf0
        exact r_iret C dX3_bestFor_65
      · rw [if_neg c17] at hf1
        refine r_aload_n C dX3_bestFor_21 rfl ?_
        obtain ⟨t18, e19, hf1⟩ := ob hf1
        refine r_getI C fk_X3_28 rfl dX3_bestFor_22 e19 ?_
        refine r_ifle (tgt := 64) C dX3_bestFor_25 (by decide) (fun c20 => ?_) (fun c20 => ?_)
        · rw [if_pos c20] at hf1
          obtain rfl := so hf1
          obtain ⟨rfl, rfl⟩ := so2 (show some (t3, h6) = some (y1, y2) from hk9)
          refine r_iload_n C dX3_bestFor_64 rfl ?_
          obtain rfl := so hf0
          exact r_iret C dX3_bestFor_65
        · rw [if_neg c20] at hf1
          refine r_aload_n C dX3_bestFor_28 rfl ?_
          refine r_iload C dX3_bestFor_29 rfl ?_
          obtain ⟨u22, e21, hf1⟩ := ob hf1
          obtain ⟨t23, e24, hf1⟩ := ob hf1
          refine r_cV (ci := 3) (rest := []) (st2 := [.int t23]) C (s_X3_wasPut e24) mk_X3_wasPut rfl (ck_k e21) (by decide) im_X3_wasPut sl_X3_wasPut lk_X3_133 rfl rfl rfl dX3_bestFor_31 (Nat.le_of_ble_eq_true rfl) ⟨Nat.le_of_ble_eq_true rfl, Nat.le_of_ble_eq_true rfl⟩ ⟨Nat.le_of_ble_eq_true rfl, Nat.le_of_ble_eq_true rfl⟩ ?_
          refine r_ifne (tgt := 58) C dX3_bestFor_34 (by decide) (fun c25 => ?_) (fun c25 => ?_)
          · rw [if_neg c25] at hf1
            exact J58 h6 t3 t4 t5 hf1
          · rw [if_pos c25] at hf1
            refine r_aload_n C dX3_bestFor_37 rfl ?_
            refine r_iload_n C dX3_bestFor_38 rfl ?_
            refine r_iload C dX3_bestFor_39 rfl ?_
            obtain ⟨u27, e26, hf1⟩ := ob hf1
            obtain ⟨t28, h29, e30, hf1⟩ := ob2 hf1
            refine r_cV (ci := 3) (rest := []) (st2 := [.int t28]) C (s_X3_mostLeftBehind e30) mk_X3_mostLeftBehind rfl (ck_k e26) (by decide) im_X3_mostLeftBehind sl_X3_mostLeftBehind lk_X3_136 rfl rfl rfl dX3_bestFor_41 (Nat.le_of_ble_eq_true rfl) ⟨Nat.le_of_ble_eq_true rfl, Nat.le_of_ble_eq_true rfl⟩ ⟨Nat.le_of_ble_eq_true rfl, Nat.le_of_ble_eq_true rfl⟩ ?_
            refine r_istore (lv' := [(5, .int t28), (0, .ref v0), (1, .int v1), (2, .int t3), (3, .int t4), (4, .int t5)]) C dX3_bestFor_44 (by decide) rfl rfl ?_
            refine r_iload C dX3_bestFor_46 rfl ?_
            refine r_iload_n C dX3_bestFor_48 rfl ?_
            refine r_icmp_ge (tgt := 58) C dX3_bestFor_49 (by decide) (fun c31 => ?_) (fun c31 => ?_)
            · rw [if_pos c31] at hf1
              refine r_subk [1, 2, 3, 4, 5] (lv' := [(0, .ref v0), (1, .int v1), (2, .int t3), (3, .int t4), (4, .int t5)]) rfl ?_
              exact J58 h29 t3 t4 t5 hf1
            · rw [if_neg c31] at hf1
              refine r_iload C dX3_bestFor_52 rfl ?_
              refine r_istore_n (lv' := [(3, .int t28), (5, .int t28), (0, .ref v0), (1, .int v1), (2, .int t3), (4, .int t5)]) C dX3_bestFor_54 (by decide) rfl rfl ?_
              refine r_iload C dX3_bestFor_55 rfl ?_
              refine r_istore_n (lv' := [(2, .int t5), (3, .int t28), (5, .int t28), (0, .ref v0), (1, .int v1), (4, .int t5)]) C dX3_bestFor_57 (by decide) rfl rfl ?_
              refine r_subk [3, 4, 0, 1, 5] (lv' := [(0, .ref v0), (1, .int v1), (2, .int t5), (3, .int t28), (4, .int t5)]) rfl ?_
              exact J58 h29 t5 t28 t5 hf1
  refine r_subk [3, 4, 2, 1, 0] (lv' := [(0, .ref v0), (1, .int v1), (2, .int (-1 : Int32)), (3, .int (257 : Int32)), (4, .int (0 : Int32))]) rfl ?_
  exact L9 wN (-1 : Int32) (257 : Int32) (0 : Int32) h hl9
def f_X3_leftIfHonest_j45 (h : aH) (v0 : Nat) (v1 : Int32) (v2 : Int32) : Option ((Int32 × Int32) ⊕ (Int32)) := (some (v2 + (1 : Int32))).bind fun t1 => some (.inl (v1, t1))
def f_X3_leftIfHonest_b4 (h : aH) (v0 : Nat) (v1 : Int32) (v2 : Int32) : Option ((Int32 × Int32) ⊕ (Int32)) := (gR h 3 v0 4).bind fun t2 => (gI h 1 t2 14).bind fun t3 => if t3 ≤ v2 then some (.inr v1) else (gR h 3 v0 4).bind fun t4 => (ck h 1 t4).bind fun _ => (f_X1_canBe h t4 v2).bind fun t5 => if t5 = 0 then f_X3_leftIfHonest_j45 h v0 v1 v2 else (gR h 3 v0 1).bind fun t6 => (lI h t6 v2).bind fun t7 => if (t7 &&& (4369 : Int32)) = (4369 : Int32) then (some (v1 + (1 : Int32))).bind fun t8 => f_X3_leftIfHonest_j45 h v0 t8 v2 else f_X3_leftIfHonest_j45 h v0 v1 v2
def f_X3_leftIfHonest_l4 (h : aH) (v0 : Nat) (v1 : Int32) (v2 : Int32) : Option (Int32) := whileL wN (fun q : Int32 × Int32 => f_X3_leftIfHonest_b4 h v0 q.1 q.2) (v1, v2)
def f_X3_leftIfHonest (h : aH) (v0 : Nat) : Option (Int32) := (f_X3_leftIfHonest_l4 h v0 (0 : Int32) (0 : Int32)).bind fun t9 => some t9
theorem s_X3_leftIfHonest {h : aH} {v0 : Nat} {out : Int32} (hf0 : f_X3_leftIfHonest h v0 = some out) : EV 1 yX3_leftIfHonest cX3_leftIfHonest 3 (some .int) h [.ref v0] (some (.int out)) h 0 0 := by
  refine EV.of (own := RX3) (lv0 := [(0, .ref v0)]) (by decide +kernel) rfl rfl (Nat.le_of_ble_eq_true rfl) ?_
  intro p l e s m args below meth c D cA B Hb C hin
  unfold f_X3_leftIfHonest at hf0
  refine r_iconst (v := 0) C dX3_leftIfHonest_0 (by decide) ?_
  refine r_istore_n (lv' := [(1, .int (0 : Int32)), (0, .ref v0)]) C dX3_leftIfHonest_1 (by decide) rfl rfl ?_
  refine r_iconst (v := 0) C dX3_leftIfHonest_2 (by decide) ?_
  refine r_istore_n (lv' := [(2, .int (0 : Int32)), (1, .int (0 : Int32)), (0, .ref v0)]) C dX3_leftIfHonest_3 (by decide) rfl rfl ?_
  obtain ⟨y1, hl4, hf0⟩ := ob hf0
  have L4 : ∀ (n : Nat) (t2 : Int32) (t3 : Int32), whileL n (fun q : Int32 × Int32 => f_X3_leftIfHonest_b4 h v0 q.1 q.2) (t2, t3) = some y1 → gW p l e (rmO 1 0 0) s m args below meth c (MQ below (eQ D cA B Hb h (some (.int out))) args s 0 0 (fun q => B ≤ q)) D cA B Hb 3 h 4 [(0, .ref v0), (1, .int t2), (2, .int t3)] [] 0 0 := by
    intro n
    induction n with
    | zero => intro t2 t3 hz; cases hz
    | succ n ih4 =>
      intro t2 t3 hz
      obtain ⟨x4, hf1, hk4⟩ := wl hz
      replace hf1 : f_X3_leftIfHonest_b4 h v0 t2 t3 = some x4 := hf1
      unfold f_X3_leftIfHonest_b4 at hf1
      have J45 : ∀ (t4 : Int32) (t5 : Int32), f_X3_leftIfHonest_j45 h v0 t4 t5 = some x4 → gW p l e (rmO 1 0 0) s m args below meth c (MQ below (eQ D cA B Hb h (some (.int out))) args s 0 0 (fun q => B ≤ q)) D cA B Hb 3 h 45 [(0, .ref v0), (1, .int t4), (2, .int t5)] [] 0 0 := by
        intro t4 t5 hf1
        unfold f_X3_leftIfHonest_j45 at hf1
        obtain ⟨t6, e7, hf1⟩ := ob hf1
        refine r_iinc (lv' := [(2, .int t6), (0, .ref v0), (1, .int t4)]) C dX3_leftIfHonest_45 rfl e7 (by decide) rfl ?_
        refine r_goto (tgt := 4) C dX3_leftIfHonest_48 (by decide) ?_
        obtain rfl := so hf1
        refine r_subk [1, 2, 0] (lv' := [(0, .ref v0), (1, .int t4), (2, .int t6)]) rfl ?_
        exact ih4 t4 t6 hk4
      refine r_iload_n C dX3_leftIfHonest_4 rfl ?_
      refine r_aload_n C dX3_leftIfHonest_5 rfl ?_
      obtain ⟨t8, e9, hf1⟩ := ob hf1
      refine r_getR C fk_X3_35 rfl dX3_leftIfHonest_6 e9 ?_
      obtain ⟨t10, e11, hf1⟩ := ob hf1
      refine r_getI C fk_X3_60 rfl dX3_leftIfHonest_9 e11 ?_
      refine r_icmp_ge (tgt := 51) C dX3_leftIfHonest_12 (by decide) (fun c12 => ?_) (fun c12 => ?_)
      · rw [if_pos c12] at hf1
        obtain rfl := so hf1
        obtain rfl := so (show some t2 = some y1 from hk4)
        refine r_iload_n C dX3_leftIfHonest_51 rfl ?_
        obtain rfl := so hf0
        exact r_iret C dX3_leftIfHonest_52
      · rw [if_neg c12] at hf1
        refine r_aload_n C dX3_leftIfHonest_15 rfl ?_
        obtain ⟨t13, e14, hf1⟩ := ob hf1
        refine r_getR C fk_X3_35 rfl dX3_leftIfHonest_16 e14 ?_
        refine r_iload_n C dX3_leftIfHonest_19 rfl ?_
        obtain ⟨u16, e15, hf1⟩ := ob hf1
        obtain ⟨t17, e18, hf1⟩ := ob hf1
        refine r_cV (ci := 1) (rest := []) (st2 := [.int t17]) C (s_X1_canBe e18) mk_X1_canBe rfl (ck_k e15) (by decide) im_X1_canBe sl_X1_canBe lk_X3_66 rfl rfl rfl dX3_leftIfHonest_20 (Nat.le_of_ble_eq_true rfl) ⟨Nat.le_of_ble_eq_true rfl, Nat.le_of_ble_eq_true rfl⟩ ⟨Nat.le_of_ble_eq_true rfl, Nat.le_of_ble_eq_true rfl⟩ ?_
        refine r_ifeq (tgt := 45) C dX3_leftIfHonest_23 (by decide) (fun c19 => ?_) (fun c19 => ?_)
        · rw [if_pos c19] at hf1
          exact J45 t2 t3 hf1
        · rw [if_neg c19] at hf1
          refine r_aload_n C dX3_leftIfHonest_26 rfl ?_
          obtain ⟨t20, e21, hf1⟩ := ob hf1
          refine r_getR C fk_X3_18 rfl dX3_leftIfHonest_27 e21 ?_
          refine r_iload_n C dX3_leftIfHonest_30 rfl ?_
          obtain ⟨t22, e23, hf1⟩ := ob hf1
          refine r_ldI C dX3_leftIfHonest_31 e23 ?_
          refine r_sipush (v := 4369) C dX3_leftIfHonest_32 (by decide) ?_
          refine r_iand C dX3_leftIfHonest_35 ?_
          refine r_sipush (v := 4369) C dX3_leftIfHonest_36 (by decide) ?_
          refine r_icmp_ne (tgt := 45) C dX3_leftIfHonest_39 (by decide) (fun c24 => ?_) (fun c24 => ?_)
          · rw [if_neg c24] at hf1
            exact J45 t2 t3 hf1
          · rw [if_pos c24] at hf1
            obtain ⟨t25, e26, hf1⟩ := ob hf1
            refine r_iinc (lv' := [(1, .int t25), (0, .ref v0), (2, .int t3)]) C dX3_leftIfHonest_42 rfl e26 (by decide) rfl ?_
            refine r_subk [1, 0, 2] (lv' := [(0, .ref v0), (1, .int t25), (2, .int t3)]) rfl ?_
            exact J45 t25 t3 hf1
  refine r_subk [2, 1, 0] (lv' := [(0, .ref v0), (1, .int (0 : Int32)), (2, .int (0 : Int32))]) rfl ?_
  exact L4 wN (0 : Int32) (0 : Int32) hl4
def f_X3_firstDoubt_b2 (h : aH) (v0 : Nat) (v1 : Int32) (v2 : Int32) : Option ((Int32) ⊕ ((Int32) ⊕ (Unit))) := (gR h 3 v0 0).bind fun t1 => (gI h 6 t1 4).bind fun t2 => if t2 ≤ v2 then some (.inr (.inr ())) else (ck h 3 v0).bind fun _ => (f_X3_agreeing h v0 v2 v1).bind fun t3 => if (t3 &&& (4369 : Int32)) = (4369 : Int32) then (some (v2 + (1 : Int32))).bind fun t4 => some (.inl t4) else some (.inr (.inl v2))
def f_X3_firstDoubt_l2 (h : aH) (v0 : Nat) (v1 : Int32) (v2 : Int32) : Option ((Int32) ⊕ (Unit)) := whileL wN (fun q : Int32 => f_X3_firstDoubt_b2 h v0 v1 q) v2
def f_X3_firstDoubt (h : aH) (v0 : Nat) (v1 : Int32) : Option (Int32) := (f_X3_firstDoubt_l2 h v0 v1 (0 : Int32)).bind fun e => match e with | .inl t5 => some t5 | .inr _ => some (-1 : Int32)
theorem s_X3_firstDoubt {h : aH} {v0 : Nat} {v1 : Int32} {out : Int32} (hf0 : f_X3_firstDoubt h v0 v1 = some out) : EV 2 yX3_firstDoubt cX3_firstDoubt 3 (some .int) h [.ref v0, .int v1] (some (.int out)) h 0 0 := by
  refine EV.of (own := RX3) (lv0 := [(0, .ref v0), (1, .int v1)]) (by decide +kernel) rfl rfl (Nat.le_of_ble_eq_true rfl) ?_
  intro p l e s m args below meth c D cA B Hb C hin
  unfold f_X3_firstDoubt at hf0
  refine r_iconst (v := 0) C dX3_firstDoubt_0 (by decide) ?_
  refine r_istore_n (lv' := [(2, .int (0 : Int32)), (0, .ref v0), (1, .int v1)]) C dX3_firstDoubt_1 (by decide) rfl rfl ?_
  obtain ⟨y1, hl2, hf0⟩ := ob hf0
  have L2 : ∀ (n : Nat) (t2 : Int32), whileL n (fun q : Int32 => f_X3_firstDoubt_b2 h v0 v1 q) t2 = some y1 → gW p l e (rmO 2 0 0) s m args below meth c (MQ below (eQ D cA B Hb h (some (.int out))) args s 0 0 (fun q => B ≤ q)) D cA B Hb 3 h 2 [(0, .ref v0), (1, .int v1), (2, .int t2)] [] 0 0 := by
    intro n
    induction n with
    | zero => intro t2 hz; cases hz
    | succ n ih2 =>
      intro t2 hz
      obtain ⟨x2, hf1, hk2⟩ := wl hz
      replace hf1 : f_X3_firstDoubt_b2 h v0 v1 t2 = some x2 := hf1
      unfold f_X3_firstDoubt_b2 at hf1
      refine r_iload_n C dX3_firstDoubt_2 rfl ?_
      refine r_aload_n C dX3_firstDoubt_3 rfl ?_
      obtain ⟨t3, e4, hf1⟩ := ob hf1
      refine r_getR C fk_X3_12 rfl dX3_firstDoubt_4 e4 ?_
      obtain ⟨t5, e6, hf1⟩ := ob hf1
      refine r_getI C fk_X3_42 rfl dX3_firstDoubt_7 e6 ?_
      refine r_icmp_ge (tgt := 37) C dX3_firstDoubt_10 (by decide) (fun c7 => ?_) (fun c7 => ?_)
      · rw [if_pos c7] at hf1
        obtain rfl := so hf1
        obtain rfl := so (show some (.inr () : (Int32) ⊕ (Unit)) = some y1 from hk2)
        dsimp only at hf0
        refine r_iconst (v := -1) C dX3_firstDoubt_37 (by decide) ?_
        obtain rfl := so hf0
        exact r_iret C dX3_firstDoubt_38
      · rw [if_neg c7] at hf1
        refine r_aload_n C dX3_firstDoubt_13 rfl ?_
        refine r_iload_n C dX3_firstDoubt_14 rfl ?_
        refine r_iload_n C dX3_firstDoubt_15 rfl ?_
        obtain ⟨u9, e8, hf1⟩ := ob hf1
        obtain ⟨t10, e11, hf1⟩ := ob hf1
        refine r_cV (ci := 3) (rest := []) (st2 := [.int t10]) C (s_X3_agreeing e11) mk_X3_agreeing rfl (ck_k e8) (by decide) im_X3_agreeing sl_X3_agreeing lk_X3_73 rfl rfl rfl dX3_firstDoubt_16 (Nat.le_of_ble_eq_true rfl) ⟨Nat.le_of_ble_eq_true rfl, Nat.le_of_ble_eq_true rfl⟩ ⟨Nat.le_of_ble_eq_true rfl, Nat.le_of_ble_eq_true rfl⟩ ?_
        refine r_sipush (v := 4369) C dX3_firstDoubt_19 (by decide) ?_
        refine r_iand C dX3_firstDoubt_22 ?_
        refine r_sipush (v := 4369) C dX3_firstDoubt_23 (by decide) ?_
        refine r_icmp_eq (tgt := 31) C dX3_firstDoubt_26 (by decide) (fun c12 => ?_) (fun c12 => ?_)
        · rw [if_pos c12] at hf1
          obtain ⟨t13, e14, hf1⟩ := ob hf1
          refine r_iinc (lv' := [(2, .int t13), (0, .ref v0), (1, .int v1)]) C dX3_firstDoubt_31 rfl e14 (by decide) rfl ?_
          refine r_goto (tgt := 2) C dX3_firstDoubt_34 (by decide) ?_
          obtain rfl := so hf1
          refine r_subk [1, 2, 0] (lv' := [(0, .ref v0), (1, .int v1), (2, .int t13)]) rfl ?_
          exact ih2 t13 hk2
        · rw [if_neg c12] at hf1
          obtain rfl := so hf1
          obtain rfl := so (show some (.inl t2 : (Int32) ⊕ (Unit)) = some y1 from hk2)
          dsimp only at hf0
          refine r_iload_n C dX3_firstDoubt_29 rfl ?_
          obtain rfl := so hf0
          exact r_iret C dX3_firstDoubt_30
  refine r_subk [1, 2, 0] (lv' := [(0, .ref v0), (1, .int v1), (2, .int (0 : Int32))]) rfl ?_
  exact L2 wN (0 : Int32) hl2
def f_X3_firstClash_j57 (h : aH) (v0 : Nat) (v1 : Int32) (v2 : Int32) : Option ((Int32 × Int32) ⊕ ((Unit) ⊕ (Int32))) := (some (v2 + (1 : Int32))).bind fun t3 => some (.inl (v1, t3))
def f_X3_firstClash_b16 (h : aH) (v0 : Nat) (v1 : Int32) (v2 : Int32) : Option ((Int32 × Int32) ⊕ ((Unit) ⊕ (Int32))) := (gR h 3 v0 4).bind fun t4 => (gI h 1 t4 14).bind fun t5 => if t5 ≤ v2 then some (.inr (.inr v1)) else (gR h 3 v0 4).bind fun t6 => (ck h 1 t6).bind fun _ => (f_X1_canBe h t6 v2).bind fun t7 => if t7 = 0 then f_X3_firstClash_j57 h v0 v1 v2 else (ck h 3 v0).bind fun _ => (f_X3_firstDoubt h v0 v2).bind fun t8 => if t8 = (-1 : Int32) then some (.inr (.inl ())) else (some (mxI v1 t8)).bind fun t9 => f_X3_firstClash_j57 h v0 t9 v2
def f_X3_firstClash_l16 (h : aH) (v0 : Nat) (v1 : Int32) (v2 : Int32) : Option ((Unit) ⊕ (Int32)) := whileL wN (fun q : Int32 × Int32 => f_X3_firstClash_b16 h v0 q.1 q.2) (v1, v2)
def f_X3_firstClash (h : aH) (v0 : Nat) : Option (Int32) := (gR h 3 v0 0).bind fun t1 => (gI h 6 t1 4).bind fun t2 => if t2 = 0 then some (-1 : Int32) else (f_X3_firstClash_l16 h v0 (0 : Int32) (0 : Int32)).bind fun e => match e with | .inl _ => some (-1 : Int32) | .inr t10 => some t10
theorem s_X3_firstClash {h : aH} {v0 : Nat} {out : Int32} (hf0 : f_X3_firstClash h v0 = some out) : EV 3 yX3_firstClash cX3_firstClash 4 (some .int) h [.ref v0] (some (.int out)) h 0 0 := by
  refine EV.of (own := RX3) (lv0 := [(0, .ref v0)]) (by decide +kernel) rfl rfl (Nat.le_of_ble_eq_true rfl) ?_
  intro p l e s m args below meth c D cA B Hb C hin
  unfold f_X3_firstClash at hf0
  refine r_aload_n C dX3_firstClash_0 rfl ?_
  obtain ⟨t1, e2, hf0⟩ := ob hf0
  refine r_getR C fk_X3_12 rfl dX3_firstClash_1 e2 ?_
  obtain ⟨t3, e4, hf0⟩ := ob hf0
  refine r_getI C fk_X3_42 rfl dX3_firstClash_4 e4 ?_
  refine r_ifne (tgt := 12) C dX3_firstClash_7 (by decide) (fun c5 => ?_) (fun c5 => ?_)
  · rw [if_neg c5] at hf0
    refine r_iconst (v := 0) C dX3_firstClash_12 (by decide) ?_
    refine r_istore_n (lv' := [(1, .int (0 : Int32)), (0, .ref v0)]) C dX3_firstClash_13 (by decide) rfl rfl ?_
    refine r_iconst (v := 0) C dX3_firstClash_14 (by decide) ?_
    refine r_istore_n (lv' := [(2, .int (0 : Int32)), (1, .int (0 : Int32)), (0, .ref v0)]) C dX3_firstClash_15 (by decide) rfl rfl ?_
    obtain ⟨y6, hl16, hf0⟩ := ob hf0
    have L16 : ∀ (n : Nat) (t7 : Int32) (t8 : Int32), whileL n (fun q : Int32 × Int32 => f_X3_firstClash_b16 h v0 q.1 q.2) (t7, t8) = some y6 → gW p l e (rmO 3 0 0) s m args below meth c (MQ below (eQ D cA B Hb h (some (.int out))) args s 0 0 (fun q => B ≤ q)) D cA B Hb 4 h 16 [(0, .ref v0), (1, .int t7), (2, .int t8)] [] 0 0 := by
      intro n
      induction n with
      | zero => intro t7 t8 hz; cases hz
      | succ n ih16 =>
        intro t7 t8 hz
        obtain ⟨x16, hf1, hk16⟩ := wl hz
        replace hf1 : f_X3_firstClash_b16 h v0 t7 t8 = some x16 := hf1
        unfold f_X3_firstClash_b16 at hf1
        have J57 : ∀ (t9 : Int32) (t10 : Int32), f_X3_firstClash_j57 h v0 t9 t10 = some x16 → gW p l e (rmO 3 0 0) s m args below meth c (MQ below (eQ D cA B Hb h (some (.int out))) args s 0 0 (fun q => B ≤ q)) D cA B Hb 4 h 57 [(0, .ref v0), (1, .int t9), (2, .int t10)] [] 0 0 := by
          intro t9 t10 hf1
          unfold f_X3_firstClash_j57 at hf1
          obtain ⟨t11, e12, hf1⟩ := ob hf1
          refine r_iinc (lv' := [(2, .int t11), (0, .ref v0), (1, .int t9)]) C dX3_firstClash_57 rfl e12 (by decide) rfl ?_
          refine r_goto (tgt := 16) C dX3_firstClash_60 (by decide) ?_
          obtain rfl := so hf1
          refine r_subk [1, 2, 0] (lv' := [(0, .ref v0), (1, .int t9), (2, .int t11)]) rfl ?_
          exact ih16 t9 t11 hk16
        refine r_iload_n C dX3_firstClash_16 rfl ?_
        refine r_aload_n C dX3_firstClash_17 rfl ?_
        obtain ⟨t13, e14, hf1⟩ := ob hf1
        refine r_getR C fk_X3_35 rfl dX3_firstClash_18 e14 ?_
        obtain ⟨t15, e16, hf1⟩ := ob hf1
        refine r_getI C fk_X3_60 rfl dX3_firstClash_21 e16 ?_
        refine r_icmp_ge (tgt := 63) C dX3_firstClash_24 (by decide) (fun c17 => ?_) (fun c17 => ?_)
        · rw [if_pos c17] at hf1
          obtain rfl := so hf1
          obtain rfl := so (show some (.inr t7 : (Unit) ⊕ (Int32)) = some y6 from hk16)
          dsimp only at hf0
          refine r_iload_n C dX3_firstClash_63 rfl ?_
          obtain rfl := so hf0
          exact r_iret C dX3_firstClash_64
        · rw [if_neg c17] at hf1
          refine r_aload_n C dX3_firstClash_27 rfl ?_
          obtain ⟨t18, e19, hf1⟩ := ob hf1
          refine r_getR C fk_X3_35 rfl dX3_firstClash_28 e19 ?_
          refine r_iload_n C dX3_firstClash_31 rfl ?_
          obtain ⟨u21, e20, hf1⟩ := ob hf1
          obtain ⟨t22, e23, hf1⟩ := ob hf1
          refine r_cV (ci := 1) (rest := []) (st2 := [.int t22]) C (s_X1_canBe e23) mk_X1_canBe rfl (ck_k e20) (by decide) im_X1_canBe sl_X1_canBe lk_X3_66 rfl rfl rfl dX3_firstClash_32 (Nat.le_of_ble_eq_true rfl) ⟨Nat.le_of_ble_eq_true rfl, Nat.le_of_ble_eq_true rfl⟩ ⟨Nat.le_of_ble_eq_true rfl, Nat.le_of_ble_eq_true rfl⟩ ?_
          refine r_ifeq (tgt := 57) C dX3_firstClash_35 (by decide) (fun c24 => ?_) (fun c24 => ?_)
          · rw [if_pos c24] at hf1
            exact J57 t7 t8 hf1
          · rw [if_neg c24] at hf1
            refine r_aload_n C dX3_firstClash_38 rfl ?_
            refine r_iload_n C dX3_firstClash_39 rfl ?_
            obtain ⟨u26, e25, hf1⟩ := ob hf1
            obtain ⟨t27, e28, hf1⟩ := ob hf1
            refine r_cV (ci := 3) (rest := []) (st2 := [.int t27]) C (s_X3_firstDoubt e28) mk_X3_firstDoubt rfl (ck_k e25) (by decide) im_X3_firstDoubt sl_X3_firstDoubt lk_X3_139 rfl rfl rfl dX3_firstClash_40 (Nat.le_of_ble_eq_true rfl) ⟨Nat.le_of_ble_eq_true rfl, Nat.le_of_ble_eq_true rfl⟩ ⟨Nat.le_of_ble_eq_true rfl, Nat.le_of_ble_eq_true rfl⟩ ?_
            refine r_istore_n (lv' := [(3, .int t27), (0, .ref v0), (1, .int t7), (2, .int t8)]) C dX3_firstClash_43 (by decide) rfl rfl ?_
            refine r_iload_n C dX3_firstClash_44 rfl ?_
            refine r_iconst (v := -1) C dX3_firstClash_45 (by decide) ?_
            refine r_icmp_ne (tgt := 51) C dX3_firstClash_46 (by decide) (fun c29 => ?_) (fun c29 => ?_)
            · rw [if_neg c29] at hf1
              refine r_iload_n C dX3_firstClash_51 rfl ?_
              refine r_iload_n C dX3_firstClash_52 rfl ?_
              refine r_mmax C lk_X3_125 dX3_firstClash_53 ⟨Nat.le_of_ble_eq_true rfl, Nat.le_of_ble_eq_true rfl⟩ (Nat.le_of_ble_eq_true rfl) ⟨Nat.le_of_ble_eq_true rfl, Nat.le_of_ble_eq_true rfl⟩ ?_
              obtain ⟨t30, e31, hf1⟩ := ob hf1
              refine r_istore_n (lv' := [(1, .int t30), (3, .int t27), (0, .ref v0), (2, .int t8)]) C dX3_firstClash_56 (by decide) e31 rfl ?_
              refine r_subk [2, 0, 3] (lv' := [(0, .ref v0), (1, .int t30), (2, .int t8)]) rfl ?_
              exact J57 t30 t8 hf1
            · rw [if_pos c29] at hf1
              obtain rfl := so hf1
              obtain rfl := so (show some (.inl () : (Unit) ⊕ (Int32)) = some y6 from hk16)
              dsimp only at hf0
              refine r_iconst (v := -1) C dX3_firstClash_49 (by decide) ?_
              obtain rfl := so hf0
              exact r_iret C dX3_firstClash_50
    refine r_subk [2, 1, 0] (lv' := [(0, .ref v0), (1, .int (0 : Int32)), (2, .int (0 : Int32))]) rfl ?_
    exact L16 wN (0 : Int32) (0 : Int32) hl16
  · rw [if_pos c5] at hf0
    refine r_iconst (v := -1) C dX3_firstClash_10 (by decide) ?_
    obtain rfl := so hf0
    exact r_iret C dX3_firstClash_11
def f_X3_neverHonest_b4 (h : aH) (v0 : Nat) (v1 : Int32) (v2 : Int32) : Option ((Int32 × Int32) ⊕ (Int32)) := (gI h 3 v0 5).bind fun t1 => if t1 ≤ v2 then some (.inr v1) else (gR h 3 v0 1).bind fun t2 => (gR h 3 v0 2).bind fun t3 => (lI h t3 v2).bind fun t4 => (lI h t2 t4).bind fun t5 => (some (v1 ||| t5)).bind fun t6 => (some (v2 + (1 : Int32))).bind fun t7 => some (.inl (t6, t7))
def f_X3_neverHonest_l4 (h : aH) (v0 : Nat) (v1 : Int32) (v2 : Int32) : Option (Int32) := whileL wN (fun q : Int32 × Int32 => f_X3_neverHonest_b4 h v0 q.1 q.2) (v1, v2)
def f_X3_neverHonest_j63 (h : aH) (v0 : Nat) (v1 : Int32) (v2 : Int32) (v3 : Int32) : Option ((Int32 × Int32) ⊕ (Int32)) := (some (v3 + (1 : Int32))).bind fun t9 => some (.inl (v2, t9))
def f_X3_neverHonest_b36 (h : aH) (v0 : Nat) (v1 : Int32) (v2 : Int32) (v3 : Int32) : Option ((Int32 × Int32) ⊕ (Int32)) := (gR h 3 v0 4).bind fun t10 => (gI h 1 t10 17).bind fun t11 => if t11 ≤ v3 then some (.inr v2) else if ((v1 >>> ((v3 * (4 : Int32)) &&& 31)) &&& (1 : Int32)) = 0 then (some (v2 ||| ((1 : Int32) <<< (v3 &&& 31)))).bind fun t12 => f_X3_neverHonest_j63 h v0 v1 t12 v3 else f_X3_neverHonest_j63 h v0 v1 v2 v3
def f_X3_neverHonest_l36 (h : aH) (v0 : Nat) (v1 : Int32) (v2 : Int32) (v3 : Int32) : Option (Int32) := whileL wN (fun q : Int32 × Int32 => f_X3_neverHonest_b36 h v0 v1 q.1 q.2) (v2, v3)
def f_X3_neverHonest (h : aH) (v0 : Nat) : Option (Int32) := (f_X3_neverHonest_l4 h v0 (0 : Int32) (0 : Int32)).bind fun t8 => (f_X3_neverHonest_l36 h v0 t8 (0 : Int32) (0 : Int32)).bind fun t13 => some t13
theorem s_X3_neverHonest {h : aH} {v0 : Nat} {out : Int32} (hf0 : f_X3_neverHonest h v0 = some out) : EV 0 yX3_neverHonest cX3_neverHonest 4 (some .int) h [.ref v0] (some (.int out)) h 0 0 := by
  refine EV.of (own := RX3) (lv0 := [(0, .ref v0)]) (by decide +kernel) rfl rfl (Nat.le_of_ble_eq_true rfl) ?_
  intro p l e s m args below meth c D cA B Hb C hin
  unfold f_X3_neverHonest at hf0
  refine r_iconst (v := 0) C dX3_neverHonest_0 (by decide) ?_
  refine r_istore_n (lv' := [(1, .int (0 : Int32)), (0, .ref v0)]) C dX3_neverHonest_1 (by decide) rfl rfl ?_
  refine r_iconst (v := 0) C dX3_neverHonest_2 (by decide) ?_
  refine r_istore_n (lv' := [(2, .int (0 : Int32)), (1, .int (0 : Int32)), (0, .ref v0)]) C dX3_neverHonest_3 (by decide) rfl rfl ?_
  obtain ⟨y1, hl4, hf0⟩ := ob hf0
  have L4 : ∀ (n : Nat) (t2 : Int32) (t3 : Int32), whileL n (fun q : Int32 × Int32 => f_X3_neverHonest_b4 h v0 q.1 q.2) (t2, t3) = some y1 → gW p l e (rmO 0 0 0) s m args below meth c (MQ below (eQ D cA B Hb h (some (.int out))) args s 0 0 (fun q => B ≤ q)) D cA B Hb 4 h 4 [(0, .ref v0), (1, .int t2), (2, .int t3)] [] 0 0 := by
    intro n
    induction n with
    | zero => intro t2 t3 hz; cases hz
    | succ n ih4 =>
      intro t2 t3 hz
      obtain ⟨x4, hf1, hk4⟩ := wl hz
      replace hf1 : f_X3_neverHonest_b4 h v0 t2 t3 = some x4 := hf1
      unfold f_X3_neverHonest_b4 at hf1
      refine r_iload_n C dX3_neverHonest_4 rfl ?_
      refine r_aload_n C dX3_neverHonest_5 rfl ?_
      obtain ⟨t4, e5, hf1⟩ := ob hf1
      refine r_getI C fk_X3_28 rfl dX3_neverHonest_6 e5 ?_
      refine r_icmp_ge (tgt := 32) C dX3_neverHonest_9 (by decide) (fun c6 => ?_) (fun c6 => ?_)
      · rw [if_pos c6] at hf1
        obtain rfl := so hf1
        obtain rfl := so (show some t2 = some y1 from hk4)
        refine r_iconst (v := 0) C dX3_neverHonest_32 (by decide) ?_
        refine r_istore_n (lv' := [(2, .int (0 : Int32)), (0, .ref v0), (1, .int t2)]) C dX3_neverHonest_33 (by decide) rfl rfl ?_
        refine r_iconst (v := 0) C dX3_neverHonest_34 (by decide) ?_
        refine r_istore_n (lv' := [(3, .int (0 : Int32)), (2, .int (0 : Int32)), (0, .ref v0), (1, .int t2)]) C dX3_neverHonest_35 (by decide) rfl rfl ?_
        obtain ⟨y7, hl36, hf0⟩ := ob hf0
        have L36 : ∀ (n : Nat) (t8 : Int32) (t9 : Int32), whileL n (fun q : Int32 × Int32 => f_X3_neverHonest_b36 h v0 t2 q.1 q.2) (t8, t9) = some y7 → gW p l e (rmO 0 0 0) s m args below meth c (MQ below (eQ D cA B Hb h (some (.int out))) args s 0 0 (fun q => B ≤ q)) D cA B Hb 4 h 36 [(0, .ref v0), (1, .int t2), (2, .int t8), (3, .int t9)] [] 0 0 := by
          intro n
          induction n with
          | zero => intro t8 t9 hz; cases hz
          | succ n ih36 =>
            intro t8 t9 hz
            obtain ⟨x36, hf1, hk36⟩ := wl hz
            replace hf1 : f_X3_neverHonest_b36 h v0 t2 t8 t9 = some x36 := hf1
            unfold f_X3_neverHonest_b36 at hf1
            have J63 : ∀ (t10 : Int32) (t11 : Int32), f_X3_neverHonest_j63 h v0 t2 t10 t11 = some x36 → gW p l e (rmO 0 0 0) s m args below meth c (MQ below (eQ D cA B Hb h (some (.int out))) args s 0 0 (fun q => B ≤ q)) D cA B Hb 4 h 63 [(0, .ref v0), (1, .int t2), (2, .int t10), (3, .int t11)] [] 0 0 := by
              intro t10 t11 hf1
              unfold f_X3_neverHonest_j63 at hf1
              obtain ⟨t12, e13, hf1⟩ := ob hf1
              refine r_iinc (lv' := [(3, .int t12), (0, .ref v0), (1, .int t2), (2, .int t10)]) C dX3_neverHonest_63 rfl e13 (by decide) rfl ?_
              refine r_goto (tgt := 36) C dX3_neverHonest_66 (by decide) ?_
              obtain rfl := so hf1
              refine r_subk [1, 2, 3, 0] (lv' := [(0, .ref v0), (1, .int t2), (2, .int t10), (3, .int t12)]) rfl ?_
              exact ih36 t10 t12 hk36
            refine r_iload_n C dX3_neverHonest_36 rfl ?_
            refine r_aload_n C dX3_neverHonest_37 rfl ?_
            obtain ⟨t14, e15, hf1⟩ := ob hf1
            refine r_getR C fk_X3_35 rfl dX3_neverHonest_38 e15 ?_
            obtain ⟨t16, e17, hf1⟩ := ob hf1
            refine r_getI C fk_X3_110 rfl dX3_neverHonest_41 e17 ?_
            refine r_icmp_ge (tgt := 69) C dX3_neverHonest_44 (by decide) (fun c18 => ?_) (fun c18 => ?_)
            · rw [if_pos c18] at hf1
              obtain rfl := so hf1
              obtain rfl := so (show some t8 = some y7 from hk36)
              refine r_iload_n C dX3_neverHonest_69 rfl ?_
              obtain rfl := so hf0
              exact r_iret C dX3_neverHonest_70
            · rw [if_neg c18] at hf1
              refine r_iload_n C dX3_neverHonest_47 rfl ?_
              refine r_iload_n C dX3_neverHonest_48 rfl ?_
              refine r_iconst (v := 4) C dX3_neverHonest_49 (by decide) ?_
              refine r_imul C dX3_neverHonest_50 ?_
              refine r_ishr C dX3_neverHonest_51 ?_
              refine r_iconst (v := 1) C dX3_neverHonest_52 (by decide) ?_
              refine r_iand C dX3_neverHonest_53 ?_
              refine r_ifne (tgt := 63) C dX3_neverHonest_54 (by decide) (fun c19 => ?_) (fun c19 => ?_)
              · rw [if_neg c19] at hf1
                exact J63 t8 t9 hf1
              · rw [if_pos c19] at hf1
                refine r_iload_n C dX3_neverHonest_57 rfl ?_
                refine r_iconst (v := 1) C dX3_neverHonest_58 (by decide) ?_
                refine r_iload_n C dX3_neverHonest_59 rfl ?_
                refine r_ishl C dX3_neverHonest_60 ?_
                refine r_ior C dX3_neverHonest_61 ?_
                obtain ⟨t20, e21, hf1⟩ := ob hf1
                refine r_istore_n (lv' := [(2, .int t20), (0, .ref v0), (1, .int t2), (3, .int t9)]) C dX3_neverHonest_62 (by decide) e21 rfl ?_
                refine r_subk [1, 2, 0, 3] (lv' := [(0, .ref v0), (1, .int t2), (2, .int t20), (3, .int t9)]) rfl ?_
                exact J63 t20 t9 hf1
        refine r_subk [2, 3, 1, 0] (lv' := [(0, .ref v0), (1, .int t2), (2, .int (0 : Int32)), (3, .int (0 : Int32))]) rfl ?_
        exact L36 wN (0 : Int32) (0 : Int32) hl36
      · rw [if_neg c6] at hf1
        refine r_iload_n C dX3_neverHonest_12 rfl ?_
        refine r_aload_n C dX3_neverHonest_13 rfl ?_
        obtain ⟨t22, e23, hf1⟩ := ob hf1
        refine r_getR C fk_X3_18 rfl dX3_neverHonest_14 e23 ?_
        refine r_aload_n C dX3_neverHonest_17 rfl ?_
        obtain ⟨t24, e25, hf1⟩ := ob hf1
        refine r_getR C fk_X3_22 rfl dX3_neverHonest_18 e25 ?_
        refine r_iload_n C dX3_neverHonest_21 rfl ?_
        obtain ⟨t26, e27, hf1⟩ := ob hf1
        refine r_ldI C dX3_neverHonest_22 e27 ?_
        obtain ⟨t28, e29, hf1⟩ := ob hf1
        refine r_ldI C dX3_neverHonest_23 e29 ?_
        refine r_ior C dX3_neverHonest_24 ?_
        obtain ⟨t30, e31, hf1⟩ := ob hf1
        refine r_istore_n (lv' := [(1, .int t30), (0, .ref v0), (2, .int t3)]) C dX3_neverHonest_25 (by decide) e31 rfl ?_
        obtain ⟨t32, e33, hf1⟩ := ob hf1
        refine r_iinc (lv' := [(2, .int t32), (1, .int t30), (0, .ref v0)]) C dX3_neverHonest_26 rfl e33 (by decide) rfl ?_
        refine r_goto (tgt := 4) C dX3_neverHonest_29 (by decide) ?_
        obtain rfl := so hf1
        refine r_subk [2, 1, 0] (lv' := [(0, .ref v0), (1, .int t30), (2, .int t32)]) rfl ?_
        exact ih4 t30 t32 hk4
  refine r_subk [2, 1, 0] (lv' := [(0, .ref v0), (1, .int (0 : Int32)), (2, .int (0 : Int32))]) rfl ?_
  exact L4 wN (0 : Int32) (0 : Int32) hl4
def f_X4_withLetter (h : aH) (v0 : Int64) (v2 : Int32) : Option (Int64) := some ((v0 <<< (Int32.toInt64 (5 : Int32) &&& 63)) ||| (Int32.toInt64 ((v2 - (97 : Int32)) + (1 : Int32))))
theorem s_X4_withLetter {h : aH} {v0 : Int64} {v2 : Int32} {out : Int64} (hf0 : f_X4_withLetter h v0 v2 = some out) : EV 0 yX4_withLetter cX4_withLetter 3 (some .long) h [.long v0, .int v2] (some (.long out)) h 0 0 := by
  refine EV.of (own := RX4) (lv0 := [(0, .long v0), (2, .int v2)]) (by decide +kernel) rfl rfl (Nat.le_of_ble_eq_true rfl) ?_
  intro p l e s m args below meth c D cA B Hb C hin
  unfold f_X4_withLetter at hf0
  refine r_lload_n C dX4_withLetter_0 rfl ?_
  refine r_iconst (v := 5) C dX4_withLetter_1 (by decide) ?_
  refine r_lshl C dX4_withLetter_2 ?_
  refine r_iload_n C dX4_withLetter_3 rfl ?_
  refine r_bipush (v := 97) C dX4_withLetter_4 (by decide) ?_
  refine r_isub C dX4_withLetter_6 ?_
  refine r_iconst (v := 1) C dX4_withLetter_7 (by decide) ?_
  refine r_iadd C dX4_withLetter_8 ?_
  refine r_i2l C dX4_withLetter_9 ?_
  refine r_lor C dX4_withLetter_10 ?_
  obtain rfl := so hf0
  exact r_lret C dX4_withLetter_11
def f_X4_init_j158 (h : aH) (v0 : Nat) (v1 : Int64) (v3 : Int32) (v4 : Int32) : Option ((Int64 × Int32 × Int32 × aH) ⊕ (aH)) := (some (v4 + (1 : Int32))).bind fun t27 => some (.inl (v1, v3, t27, h))
def f_X4_init_b104 (v0 : Nat) (v1 : Int64) (v3 : Int32) (v4 : Int32) (h : aH) : Option ((Int64 × Int32 × Int32 × aH) ⊕ (aH)) := (scN 0).bind fun t28 => if t28 ≤ v4 then some (.inr h) else if (27 : Int32) ≤ v3 then some (.inr h) else (scC 0 v4).bind fun t29 => if t29 = (32 : Int32) then (gR h 4 v0 1).bind fun t31 => (sJ h t31 v3 v1).bind fun h32 => (some (v3 + (1 : Int32))).bind fun t33 => f_X4_init_j158 h32 v0 (0 : Int64) t33 v4 else (f_X4_withLetter h v1 t29).bind fun t30 => f_X4_init_j158 h v0 t30 v3 v4
def f_X4_init_l104 (v0 : Nat) (v1 : Int64) (v3 : Int32) (v4 : Int32) (h : aH) : Option (aH) := whileL wN (fun q : Int64 × Int32 × Int32 × aH => f_X4_init_b104 v0 q.1 q.2.1 q.2.2.1 q.2.2.2) (v1, v3, v4, h)
def f_X4_init (h : aH) (v0 : Nat) : Option (aH) := bd2 (nwO h 22 900) fun t1 h2 => (pR h2 4 v0 0 t1).bind fun h3 => bd2 (nwO h3 21 27) fun t4 h5 => (pR h5 4 v0 1 t4).bind fun h6 => bd2 (nwO h6 20 901) fun t7 h8 => (pR h8 4 v0 2 t7).bind fun h9 => bd2 (nwO h9 20 901) fun t10 h11 => (pR h11 4 v0 3 t10).bind fun h12 => bd2 (nwO h12 20 901) fun t13 h14 => (pR h14 4 v0 4 t13).bind fun h15 => bd2 (nwO h15 21 901) fun t16 h17 => (pR h17 4 v0 5 t16).bind fun h18 => (pI h18 4 v0 6 (0 : Int32)).bind fun h19 => (pI h19 4 v0 7 (0 : Int32)).bind fun h20 => (pI h20 4 v0 8 (0 : Int32)).bind fun h21 => (pI h21 4 v0 9 (0 : Int32)).bind fun h22 => (pI h22 4 v0 10 (0 : Int32)).bind fun h23 => (pJ h23 4 v0 11 (0 : Int64)).bind fun h24 => (pI h24 4 v0 12 (-1 : Int32)).bind fun h25 => (pI h25 4 v0 13 (-1 : Int32)).bind fun h26 => (f_X4_init_l104 v0 (0 : Int64) (0 : Int32) (0 : Int32) h26).bind fun h34 => some h34
theorem s_X4_init {h : aH} {v0 : Nat} {out : aH} (hf0 : f_X4_init h v0 = some out) : EV 8 yX4_init cX4_init 6 none h [.ref v0] none out 6 4531 := by
  refine EV.of (own := RX4) (lv0 := [(0, .ref v0)]) (by decide +kernel) rfl rfl (Nat.le_of_ble_eq_true rfl) ?_
  intro p l e s m args below meth c D cA B Hb C hin
  unfold f_X4_init at hf0
  refine r_aload_n C dX4_init_0 rfl ?_
  refine r_obj C lk_X4_3 dX4_init_1 ⟨Nat.le_of_ble_eq_true rfl, Nat.le_of_ble_eq_true rfl⟩ (Nat.le_of_ble_eq_true rfl) ?_
  refine r_aload_n C dX4_init_4 rfl ?_
  refine r_sipush (v := 900) C dX4_init_5 (by decide) ?_
  obtain ⟨t1, h2, e3, hf0⟩ := ob2 hf0
  refine r_newBE C dX4_init_8 (by decide) (by decide) (by decide) ⟨Nat.le_of_ble_eq_true rfl, Nat.le_of_ble_eq_true rfl⟩ e3 ?_
  obtain ⟨h4, e5, hf0⟩ := ob hf0
  refine r_putFR C fk_X4_9 ⟨_, _, rfl⟩ (Or.inr ⟨_, rfl⟩) hin dX4_init_10 e5 ?_
  refine r_aload_n C dX4_init_13 rfl ?_
  refine r_bipush (v := 27) C dX4_init_14 (by decide) ?_
  obtain ⟨t6, h7, e8, hf0⟩ := ob2 hf0
  refine r_newJE C dX4_init_16 (by decide) (by decide) (by decide) ⟨Nat.le_of_ble_eq_true rfl, Nat.le_of_ble_eq_true rfl⟩ e8 ?_
  obtain ⟨h9, e10, hf0⟩ := ob hf0
  refine r_putFR C fk_X4_15 ⟨_, _, rfl⟩ (Or.inr ⟨_, rfl⟩) hin dX4_init_18 e10 ?_
  refine r_aload_n C dX4_init_21 rfl ?_
  refine r_sipush (v := 901) C dX4_init_22 (by decide) ?_
  obtain ⟨t11, h12, e13, hf0⟩ := ob2 hf0
  refine r_newIE C dX4_init_25 (by decide) (by decide) (by decide) ⟨Nat.le_of_ble_eq_true rfl, Nat.le_of_ble_eq_true rfl⟩ e13 ?_
  obtain ⟨h14, e15, hf0⟩ := ob hf0
  refine r_putFR C fk_X4_19 ⟨_, _, rfl⟩ (Or.inr ⟨_, rfl⟩) hin dX4_init_27 e15 ?_
  refine r_aload_n C dX4_init_30 rfl ?_
  refine r_sipush (v := 901) C dX4_init_31 (by decide) ?_
  obtain ⟨t16, h17, e18, hf0⟩ := ob2 hf0
  refine r_newIE C dX4_init_34 (by decide) (by decide) (by decide) ⟨Nat.le_of_ble_eq_true rfl, Nat.le_of_ble_eq_true rfl⟩ e18 ?_
  obtain ⟨h19, e20, hf0⟩ := ob hf0
  refine r_putFR C fk_X4_23 ⟨_, _, rfl⟩ (Or.inr ⟨_, rfl⟩) hin dX4_init_36 e20 ?_
  refine r_aload_n C dX4_init_39 rfl ?_
  refine r_sipush (v := 901) C dX4_init_40 (by decide) ?_
  obtain ⟨t21, h22, e23, hf0⟩ := ob2 hf0
  refine r_newIE C dX4_init_43 (by decide) (by decide) (by decide) ⟨Nat.le_of_ble_eq_true rfl, Nat.le_of_ble_eq_true rfl⟩ e23 ?_
  obtain ⟨h24, e25, hf0⟩ := ob hf0
  refine r_putFR C fk_X4_26 ⟨_, _, rfl⟩ (Or.inr ⟨_, rfl⟩) hin dX4_init_45 e25 ?_
  refine r_aload_n C dX4_init_48 rfl ?_
  refine r_sipush (v := 901) C dX4_init_49 (by decide) ?_
  obtain ⟨t26, h27, e28, hf0⟩ := ob2 hf0
  refine r_newJE C dX4_init_52 (by decide) (by decide) (by decide) ⟨Nat.le_of_ble_eq_true rfl, Nat.le_of_ble_eq_true rfl⟩ e28 ?_
  obtain ⟨h29, e30, hf0⟩ := ob hf0
  refine r_putFR C fk_X4_29 ⟨_, _, rfl⟩ (Or.inr ⟨_, rfl⟩) hin dX4_init_54 e30 ?_
  refine r_aload_n C dX4_init_57 rfl ?_
  refine r_iconst (v := 0) C dX4_init_58 (by decide) ?_
  obtain ⟨h31, e32, hf0⟩ := ob hf0
  refine r_putI C fk_X4_32 dX4_init_59 e32 ?_
  refine r_aload_n C dX4_init_62 rfl ?_
  refine r_iconst (v := 0) C dX4_init_63 (by decide) ?_
  obtain ⟨h33, e34, hf0⟩ := ob hf0
  refine r_putI C fk_X4_36 dX4_init_64 e34 ?_
  refine r_aload_n C dX4_init_67 rfl ?_
  refine r_iconst (v := 0) C dX4_init_68 (by decide) ?_
  obtain ⟨h35, e36, hf0⟩ := ob hf0
  refine r_putI C fk_X4_39 dX4_init_69 e36 ?_
  refine r_aload_n C dX4_init_72 rfl ?_
  refine r_iconst (v := 0) C dX4_init_73 (by decide) ?_
  obtain ⟨h37, e38, hf0⟩ := ob hf0
  refine r_putI C fk_X4_42 dX4_init_74 e38 ?_
  refine r_aload_n C dX4_init_77 rfl ?_
  refine r_iconst (v := 0) C dX4_init_78 (by decide) ?_
  obtain ⟨h39, e40, hf0⟩ := ob hf0
  refine r_putI C fk_X4_45 dX4_init_79 e40 ?_
  refine r_aload_n C dX4_init_82 rfl ?_
  refine r_lconst (v := 0) C dX4_init_83 (by decide) ?_
  obtain ⟨h41, e42, hf0⟩ := ob hf0
  refine r_putJ C fk_X4_48 dX4_init_84 e42 ?_
  refine r_aload_n C dX4_init_87 rfl ?_
  refine r_iconst (v := -1) C dX4_init_88 (by decide) ?_
  obtain ⟨h43, e44, hf0⟩ := ob hf0
  refine r_putI C fk_X4_52 dX4_init_89 e44 ?_
  refine r_aload_n C dX4_init_92 rfl ?_
  refine r_iconst (v := -1) C dX4_init_93 (by decide) ?_
  obtain ⟨h45, e46, hf0⟩ := ob hf0
  refine r_putI C fk_X4_55 dX4_init_94 e46 ?_
  refine r_lconst (v := 0) C dX4_init_97 (by decide) ?_
  refine r_lstore_n (lv' := [(1, .long (0 : Int64)), (0, .ref v0)]) C dX4_init_98 (by decide) rfl rfl ?_
  refine r_iconst (v := 0) C dX4_init_99 (by decide) ?_
  refine r_istore_n (lv' := [(3, .int (0 : Int32)), (1, .long (0 : Int64)), (0, .ref v0)]) C dX4_init_100 (by decide) rfl rfl ?_
  refine r_iconst (v := 0) C dX4_init_101 (by decide) ?_
  refine r_istore (lv' := [(4, .int (0 : Int32)), (3, .int (0 : Int32)), (1, .long (0 : Int64)), (0, .ref v0)]) C dX4_init_102 (by decide) rfl rfl ?_
  obtain ⟨y47, hl104, hf0⟩ := ob hf0
  have L104 : ∀ (n : Nat) (t48 : Int64) (t49 : Int32) (t50 : Int32) (h51 : aH), whileL n (fun q : Int64 × Int32 × Int32 × aH => f_X4_init_b104 v0 q.1 q.2.1 q.2.2.1 q.2.2.2) (t48, t49, t50, h51) = some y47 → gW p l e (rmO 8 6 4531) s m args below meth c (MQ below (eQ D cA B Hb out none) args s 6 4531 (fun q => B ≤ q)) D cA B Hb 6 h51 104 [(0, .ref v0), (1, .long t48), (3, .int t49), (4, .int t50)] [] 6 4531 := by
    intro n
    induction n with
    | zero => intro t48 t49 t50 h51 hz; cases hz
    | succ n ih104 =>
      intro t48 t49 t50 h51 hz
      obtain ⟨x104, hf1, hk104⟩ := wl hz
      replace hf1 : f_X4_init_b104 v0 t48 t49 t50 h51 = some x104 := hf1
      unfold f_X4_init_b104 at hf1
      have J158 : ∀ (h52 : aH) (t53 : Int64) (t54 : Int32) (t55 : Int32), f_X4_init_j158 h52 v0 t53 t54 t55 = some x104 → gW p l e (rmO 8 6 4531) s m args below meth c (MQ below (eQ D cA B Hb out none) args s 6 4531 (fun q => B ≤ q)) D cA B Hb 6 h52 158 [(0, .ref v0), (1, .long t53), (3, .int t54), (4, .int t55)] [] 6 4531 := by
        intro h52 t53 t54 t55 hf1
        unfold f_X4_init_j158 at hf1
        obtain ⟨t56, e57, hf1⟩ := ob hf1
        refine r_iinc (lv' := [(4, .int t56), (0, .ref v0), (1, .long t53), (3, .int t54)]) C dX4_init_158 rfl e57 (by decide) rfl ?_
        refine r_goto (tgt := 104) C dX4_init_161 (by decide) ?_
        obtain rfl := so hf1
        refine r_subk [1, 2, 3, 0] (lv' := [(0, .ref v0), (1, .long t53), (3, .int t54), (4, .int t56)]) rfl ?_
        exact ih104 t53 t54 t56 h52 hk104
      refine r_iload C dX4_init_104 rfl ?_
      refine r_lds0 C dX4_init_106 ?_
      obtain ⟨t58, e59, hf1⟩ := ob hf1
      refine r_slen C lk_X4_60 dX4_init_108 (Nat.le_of_ble_eq_true rfl) ⟨Nat.le_of_ble_eq_true rfl, Nat.le_of_ble_eq_true rfl⟩ ⟨Nat.le_of_ble_eq_true rfl, Nat.le_of_ble_eq_true rfl⟩ e59 ?_
      refine r_icmp_ge (tgt := 164) C dX4_init_111 (by decide) (fun c60 => ?_) (fun c60 => ?_)
      · rw [if_pos c60] at hf1
        obtain rfl := so hf1
        obtain rfl := so (show some h51 = some y47 from hk104)
        obtain rfl := so hf0
        exact r_vret C dX4_init_164
      · rw [if_neg c60] at hf1
        refine r_iload_n C dX4_init_114 rfl ?_
        refine r_bipush (v := 27) C dX4_init_115 (by decide) ?_
        refine r_icmp_ge (tgt := 164) C dX4_init_117 (by decide) (fun c61 => ?_) (fun c61 => ?_)
        · rw [if_pos c61] at hf1
          obtain rfl := so hf1
          obtain rfl := so (show some h51 = some y47 from hk104)
          obtain rfl := so hf0
          exact r_vret C dX4_init_164
        · rw [if_neg c61] at hf1
          refine r_lds0 C dX4_init_120 ?_
          refine r_iload C dX4_init_122 rfl ?_
          obtain ⟨t62, e63, hf1⟩ := ob hf1
          refine r_schr C lk_X4_65 dX4_init_124 (Nat.le_of_ble_eq_true rfl) ⟨Nat.le_of_ble_eq_true rfl, Nat.le_of_ble_eq_true rfl⟩ ⟨Nat.le_of_ble_eq_true rfl, Nat.le_of_ble_eq_true rfl⟩ e63 ?_
          refine r_istore (lv' := [(5, .int t62), (0, .ref v0), (1, .long t48), (3, .int t49), (4, .int t50)]) C dX4_init_127 (by decide) rfl rfl ?_
          refine r_iload C dX4_init_129 rfl ?_
          refine r_bipush (v := 32) C dX4_init_131 (by decide) ?_
          refine r_icmp_ne (tgt := 151) C dX4_init_133 (by decide) (fun c64 => ?_) (fun c64 => ?_)
          · rw [if_neg c64] at hf1
            refine r_lload_n C dX4_init_151 rfl ?_
            refine r_iload C dX4_init_152 rfl ?_
            obtain ⟨t65, e66, hf1⟩ := ob hf1
            refine r_cS (rest := []) (st2 := [.long t65]) C (s_X4_withLetter e66) mk_X4_withLetter sm_X4_withLetter lk_X4_69 rfl rfl rfl dX4_init_154 (Nat.le_of_ble_eq_true rfl) ⟨Nat.le_of_ble_eq_true rfl, Nat.le_of_ble_eq_true rfl⟩ ⟨Nat.le_of_ble_eq_true rfl, Nat.le_of_ble_eq_true rfl⟩ ?_
            refine r_lstore_n (lv' := [(1, .long t65), (5, .int t62), (0, .ref v0), (3, .int t49), (4, .int t50)]) C dX4_init_157 (by decide) rfl rfl ?_
            refine r_subk [2, 0, 3, 4] (lv' := [(0, .ref v0), (1, .long t65), (3, .int t49), (4, .int t50)]) rfl ?_
            exact J158 h51 t65 t49 t50 hf1
          · rw [if_pos c64] at hf1
            refine r_aload_n C dX4_init_136 rfl ?_
            obtain ⟨t67, e68, hf1⟩ := ob hf1
            refine r_getR C fk_X4_15 rfl dX4_init_137 e68 ?_
            refine r_iload_n C dX4_init_140 rfl ?_
            refine r_lload_n C dX4_init_141 rfl ?_
            obtain ⟨h69, e70, hf1⟩ := ob hf1
            refine r_stJ C dX4_init_142 e70 ?_
            obtain ⟨t71, e72, hf1⟩ := ob hf1
            refine r_iinc (lv' := [(3, .int t71), (5, .int t62), (0, .ref v0), (1, .long t48), (4, .int t50)]) C dX4_init_143 rfl e72 (by decide) rfl ?_
            refine r_lconst (v := 0) C dX4_init_146 (by decide) ?_
            refine r_lstore_n (lv' := [(1, .long (0 : Int64)), (3, .int t71), (5, .int t62), (0, .ref v0), (4, .int t50)]) C dX4_init_147 (by decide) rfl rfl ?_
            refine r_goto (tgt := 158) C dX4_init_148 (by decide) ?_
            refine r_subk [3, 0, 1, 4] (lv' := [(0, .ref v0), (1, .long (0 : Int64)), (3, .int t71), (4, .int t50)]) rfl ?_
            exact J158 h69 (0 : Int64) t71 t50 hf1
  refine r_subk [3, 2, 1, 0] (lv' := [(0, .ref v0), (1, .long (0 : Int64)), (3, .int (0 : Int32)), (4, .int (0 : Int32))]) rfl ?_
  exact L104 wN (0 : Int64) (0 : Int32) (0 : Int32) h45 hl104
def f_X4_putBytes_b3 (v0 : Nat) (v1 : Int32) (v2 : Int32) (h : aH) : Option ((Int32 × aH) ⊕ (aH)) := if v2 < 0 then some (.inr h) else (gI h 4 v0 6).bind fun t1 => if (900 : Int32) ≤ t1 then some (.inr h) else (gR h 4 v0 0).bind fun t2 => (gI h 4 v0 6).bind fun t3 => (sB h t2 t3 ((Int32.toInt8 (v1 >>> (v2 &&& 31))).toInt32)).bind fun h4 => (gI h4 4 v0 6).bind fun t5 => (pI h4 4 v0 6 (t5 + (1 : Int32))).bind fun h6 => (some (v2 + (-8 : Int32))).bind fun t7 => some (.inl (t7, h6))
def f_X4_putBytes_l3 (v0 : Nat) (v1 : Int32) (v2 : Int32) (h : aH) : Option (aH) := whileL wN (fun q : Int32 × aH => f_X4_putBytes_b3 v0 v1 q.1 q.2) (v2, h)
def f_X4_putBytes (h : aH) (v0 : Nat) (v1 : Int32) : Option (aH) := (f_X4_putBytes_l3 v0 v1 (24 : Int32) h).bind fun h8 => some h8
theorem s_X4_putBytes {h : aH} {v0 : Nat} {v1 : Int32} {out : aH} (hf0 : f_X4_putBytes h v0 v1 = some out) : EV 0 yX4_putBytes cX4_putBytes 3 none h [.ref v0, .int v1] none out 0 0 := by
  refine EV.of (own := RX4) (lv0 := [(0, .ref v0), (1, .int v1)]) (by decide +kernel) rfl rfl (Nat.le_of_ble_eq_true rfl) ?_
  intro p l e s m args below meth c D cA B Hb C hin
  unfold f_X4_putBytes at hf0
  refine r_bipush (v := 24) C dX4_putBytes_0 (by decide) ?_
  refine r_istore_n (lv' := [(2, .int (24 : Int32)), (0, .ref v0), (1, .int v1)]) C dX4_putBytes_2 (by decide) rfl rfl ?_
  obtain ⟨y1, hl3, hf0⟩ := ob hf0
  have L3 : ∀ (n : Nat) (t2 : Int32) (h3 : aH), whileL n (fun q : Int32 × aH => f_X4_putBytes_b3 v0 v1 q.1 q.2) (t2, h3) = some y1 → gW p l e (rmO 0 0 0) s m args below meth c (MQ below (eQ D cA B Hb out none) args s 0 0 (fun q => B ≤ q)) D cA B Hb 3 h3 3 [(0, .ref v0), (1, .int v1), (2, .int t2)] [] 0 0 := by
    intro n
    induction n with
    | zero => intro t2 h3 hz; cases hz
    | succ n ih3 =>
      intro t2 h3 hz
      obtain ⟨x3, hf1, hk3⟩ := wl hz
      replace hf1 : f_X4_putBytes_b3 v0 v1 t2 h3 = some x3 := hf1
      unfold f_X4_putBytes_b3 at hf1
      refine r_iload_n C dX4_putBytes_3 rfl ?_
      refine r_iflt (tgt := 46) C dX4_putBytes_4 (by decide) (fun c4 => ?_) (fun c4 => ?_)
      · rw [if_pos c4] at hf1
        obtain rfl := so hf1
        obtain rfl := so (show some h3 = some y1 from hk3)
        obtain rfl := so hf0
        exact r_vret C dX4_putBytes_46
      · rw [if_neg c4] at hf1
        refine r_aload_n C dX4_putBytes_7 rfl ?_
        obtain ⟨t5, e6, hf1⟩ := ob hf1
        refine r_getI C fk_X4_32 rfl dX4_putBytes_8 e6 ?_
        refine r_sipush (v := 900) C dX4_putBytes_11 (by decide) ?_
        refine r_icmp_ge (tgt := 46) C dX4_putBytes_14 (by decide) (fun c7 => ?_) (fun c7 => ?_)
        · rw [if_pos c7] at hf1
          obtain rfl := so hf1
          obtain rfl := so (show some h3 = some y1 from hk3)
          obtain rfl := so hf0
          exact r_vret C dX4_putBytes_46
        · rw [if_neg c7] at hf1
          refine r_aload_n C dX4_putBytes_17 rfl ?_
          obtain ⟨t8, e9, hf1⟩ := ob hf1
          refine r_getR C fk_X4_9 rfl dX4_putBytes_18 e9 ?_
          refine r_aload_n C dX4_putBytes_21 rfl ?_
          obtain ⟨t10, e11, hf1⟩ := ob hf1
          refine r_getI C fk_X4_32 rfl dX4_putBytes_22 e11 ?_
          refine r_iload_n C dX4_putBytes_25 rfl ?_
          refine r_iload_n C dX4_putBytes_26 rfl ?_
          refine r_ishr C dX4_putBytes_27 ?_
          refine r_i2b C dX4_putBytes_28 ?_
          obtain ⟨h12, e13, hf1⟩ := ob hf1
          refine r_stB C dX4_putBytes_29 e13 ?_
          refine r_aload_n C dX4_putBytes_30 rfl ?_
          refine r_dup C dX4_putBytes_31 rfl ?_
          obtain ⟨t14, e15, hf1⟩ := ob hf1
          refine r_getI C fk_X4_32 rfl dX4_putBytes_32 e15 ?_
          refine r_iconst (v := 1) C dX4_putBytes_35 (by decide) ?_
          refine r_iadd C dX4_putBytes_36 ?_
          obtain ⟨h16, e17, hf1⟩ := ob hf1
          refine r_putI C fk_X4_32 dX4_putBytes_37 e17 ?_
          obtain ⟨t18, e19, hf1⟩ := ob hf1
          refine r_iinc (lv' := [(2, .int t18), (0, .ref v0), (1, .int v1)]) C dX4_putBytes_40 rfl e19 (by decide) rfl ?_
          refine r_goto (tgt := 3) C dX4_putBytes_43 (by decide) ?_
          obtain rfl := so hf1
          refine r_subk [1, 2, 0] (lv' := [(0, .ref v0), (1, .int v1), (2, .int t18)]) rfl ?_
          exact ih3 t18 h16 hk3
  refine r_subk [1, 2, 0] (lv' := [(0, .ref v0), (1, .int v1), (2, .int (24 : Int32))]) rfl ?_
  exact L3 wN (24 : Int32) h hl3
def f_X4_isBlank (h : aH) (v0 : Int32) : Option (Int32) := if v0 = (10 : Int32) then some (1 : Int32) else if v0 = (32 : Int32) then some (1 : Int32) else some (0 : Int32)
theorem s_X4_isBlank {h : aH} {v0 : Int32} {out : Int32} (hf0 : f_X4_isBlank h v0 = some out) : EV 0 yX4_isBlank cX4_isBlank 1 (some .boolean) h [.int v0] (some (.int out)) h 0 0 := by
  refine EV.of (own := RX4) (lv0 := [(0, .int v0)]) (by decide +kernel) rfl rfl (Nat.le_of_ble_eq_true rfl) ?_
  intro p l e s m args below meth c D cA B Hb C hin
  unfold f_X4_isBlank at hf0
  refine r_iload_n C dX4_isBlank_0 rfl ?_
  refine r_bipush (v := 10) C dX4_isBlank_1 (by decide) ?_
  refine r_icmp_eq (tgt := 12) C dX4_isBlank_3 (by decide) (fun c1 => ?_) (fun c1 => ?_)
  · rw [if_pos c1] at hf0
    refine r_iconst (v := 1) C dX4_isBlank_12 (by decide) ?_
    refine r_goto (tgt := 17) C dX4_isBlank_13 (by decide) ?_
    obtain rfl := so hf0
    exact r_zret C dX4_isBlank_17 (Or.inr rfl)
  · rw [if_neg c1] at hf0
    refine r_iload_n C dX4_isBlank_6 rfl ?_
    refine r_bipush (v := 32) C dX4_isBlank_7 (by decide) ?_
    refine r_icmp_ne (tgt := 16) C dX4_isBlank_9 (by decide) (fun c2 => ?_) (fun c2 => ?_)
    · rw [if_neg c2] at hf0
      refine r_iconst (v := 0) C dX4_isBlank_16 (by decide) ?_
      obtain rfl := so hf0
      exact r_zret C dX4_isBlank_17 (Or.inl rfl)
    · rw [if_pos c2] at hf0
      refine r_iconst (v := 1) C dX4_isBlank_12 (by decide) ?_
      refine r_goto (tgt := 17) C dX4_isBlank_13 (by decide) ?_
      obtain rfl := so hf0
      exact r_zret C dX4_isBlank_17 (Or.inr rfl)
def f_X4_isLetter (h : aH) (v0 : Int32) : Option (Int32) := if v0 < (97 : Int32) then some (0 : Int32) else if (122 : Int32) < v0 then some (0 : Int32) else some (1 : Int32)
theorem s_X4_isLetter {h : aH} {v0 : Int32} {out : Int32} (hf0 : f_X4_isLetter h v0 = some out) : EV 0 yX4_isLetter cX4_isLetter 1 (some .boolean) h [.int v0] (some (.int out)) h 0 0 := by
  refine EV.of (own := RX4) (lv0 := [(0, .int v0)]) (by decide +kernel) rfl rfl (Nat.le_of_ble_eq_true rfl) ?_
  intro p l e s m args below meth c D cA B Hb C hin
  unfold f_X4_isLetter at hf0
  refine r_iload_n C dX4_isLetter_0 rfl ?_
  refine r_bipush (v := 97) C dX4_isLetter_1 (by decide) ?_
  refine r_icmp_lt (tgt := 16) C dX4_isLetter_3 (by decide) (fun c1 => ?_) (fun c1 => ?_)
  · rw [if_pos c1] at hf0
    refine r_iconst (v := 0) C dX4_isLetter_16 (by decide) ?_
    obtain rfl := so hf0
    exact r_zret C dX4_isLetter_17 (Or.inl rfl)
  · rw [if_neg c1] at hf0
    refine r_iload_n C dX4_isLetter_6 rfl ?_
    refine r_bipush (v := 122) C dX4_isLetter_7 (by decide) ?_
    refine r_icmp_gt (tgt := 16) C dX4_isLetter_9 (by decide) (fun c2 => ?_) (fun c2 => ?_)
    · rw [if_pos c2] at hf0
      refine r_iconst (v := 0) C dX4_isLetter_16 (by decide) ?_
      obtain rfl := so hf0
      exact r_zret C dX4_isLetter_17 (Or.inl rfl)
    · rw [if_neg c2] at hf0
      refine r_iconst (v := 1) C dX4_isLetter_12 (by decide) ?_
      refine r_goto (tgt := 17) C dX4_isLetter_13 (by decide) ?_
      obtain rfl := so hf0
      exact r_zret C dX4_isLetter_17 (Or.inr rfl)
def f_X4_scanWord_b88 (h : aH) (v0 : Nat) (v2 : Int64) (v5 : Int32) : Option ((Int32) ⊕ ((Int32) ⊕ (Unit))) := if (27 : Int32) ≤ v5 then some (.inr (.inr ())) else (gR h 4 v0 1).bind fun t3 => (lJ h t3 v5).bind fun t4 => if (lg_cmp t4 v2) = 0 then some (.inr (.inl v5)) else (some (v5 + (1 : Int32))).bind fun t5 => some (.inl t5)
def f_X4_scanWord_l88 (h : aH) (v0 : Nat) (v2 : Int64) (v5 : Int32) : Option ((Int32) ⊕ (Unit)) := whileL wN (fun q : Int32 => f_X4_scanWord_b88 h v0 v2 q) v5
def f_X4_scanWord_j68 (h : aH) (v0 : Nat) (v1 : Int32) (v2 : Int64) (v4 : Int32) : Option (Int32 × aH) := (gR h 4 v0 5).bind fun t1 => (sJ h t1 v1 v2).bind fun h2 => if v4 ≤ (8 : Int32) then (f_X4_scanWord_l88 h2 v0 v2 (0 : Int32)).bind fun e => match e with | .inl t6 => some ((8 : Int32) + t6, h2) | .inr _ => some ((6 : Int32), h2) else some ((7 : Int32), h2)
def f_X4_scanWord_j52 (h : aH) (v0 : Nat) (v1 : Int32) (v2 : Int64) (v4 : Int32) : Option ((Int64 × Int32 × aH) ⊕ (Int64 × Int32 × aH)) := (some (v4 + (1 : Int32))).bind fun t7 => (gI h 4 v0 8).bind fun t8 => (pI h 4 v0 8 (t8 + (1 : Int32))).bind fun h9 => some (.inl (v2, t7, h9))
def f_X4_scanWord_b5 (v0 : Nat) (v1 : Int32) (v2 : Int64) (v4 : Int32) (h : aH) : Option ((Int64 × Int32 × aH) ⊕ (Int64 × Int32 × aH)) := (gI h 4 v0 8).bind fun t10 => (gI h 4 v0 7).bind fun t11 => if t11 ≤ t10 then some (.inr (v2, v4, h)) else (gR h 4 v0 0).bind fun t12 => (gI h 4 v0 8).bind fun t13 => (lB h t12 t13).bind fun t14 => (f_X4_isLetter h t14).bind fun t15 => if t15 = 0 then some (.inr (v2, v4, h)) else if (8 : Int32) ≤ v4 then f_X4_scanWord_j52 h v0 v1 v2 v4 else (gR h 4 v0 0).bind fun t16 => (gI h 4 v0 8).bind fun t17 => (lB h t16 t17).bind fun t18 => (f_X4_withLetter h v2 t18).bind fun t19 => f_X4_scanWord_j52 h v0 v1 t19 v4
def f_X4_scanWord_l5 (v0 : Nat) (v1 : Int32) (v2 : Int64) (v4 : Int32) (h : aH) : Option (Int64 × Int32 × aH) := whileL wN (fun q : Int64 × Int32 × aH => f_X4_scanWord_b5 v0 v1 q.1 q.2.1 q.2.2) (v2, v4, h)
def f_X4_scanWord (h : aH) (v0 : Nat) (v1 : Int32) : Option (Int32 × aH) := bd3 (f_X4_scanWord_l5 v0 v1 (0 : Int64) (0 : Int32) h) fun t20 t21 h22 => f_X4_scanWord_j68 h22 v0 v1 t20 t21
theorem s_X4_scanWord {h : aH} {v0 : Nat} {v1 : Int32} {out : Int32 × aH} (hf0 : f_X4_scanWord h v0 v1 = some out) : EV 1 yX4_scanWord cX4_scanWord 6 (some .int) h [.ref v0, .int v1] (some (.int out.1)) out.2 0 0 := by
  refine EV.of (own := RX4) (lv0 := [(0, .ref v0), (1, .int v1)]) (by decide +kernel) rfl rfl (Nat.le_of_ble_eq_true rfl) ?_
  intro p l e s m args below meth c D cA B Hb C hin
  unfold f_X4_scanWord at hf0
  have J68 : ∀ (h1 : aH) (t2 : Nat) (t3 : Int32) (t4 : Int64) (t5 : Int32), f_X4_scanWord_j68 h1 t2 t3 t4 t5 = some out → gW p l e (rmO 1 0 0) s m args below meth c (MQ below (eQ D cA B Hb out.2 (some (.int out.1))) args s 0 0 (fun q => B ≤ q)) D cA B Hb 6 h1 68 [(0, .ref t2), (1, .int t3), (2, .long t4), (4, .int t5)] [] 0 0 := by
    intro h1 t2 t3 t4 t5 hf0
    unfold f_X4_scanWord_j68 at hf0
    refine r_aload_n C dX4_scanWord_68 rfl ?_
    obtain ⟨t6, e7, hf0⟩ := ob hf0
    refine r_getR C fk_X4_29 rfl dX4_scanWord_69 e7 ?_
    refine r_iload_n C dX4_scanWord_72 rfl ?_
    refine r_lload_n C dX4_scanWord_73 rfl ?_
    obtain ⟨h8, e9, hf0⟩ := ob hf0
    refine r_stJ C dX4_scanWord_74 e9 ?_
    refine r_iload C dX4_scanWord_75 rfl ?_
    refine r_bipush (v := 8) C dX4_scanWord_77 (by decide) ?_
    refine r_icmp_le (tgt := 85) C dX4_scanWord_79 (by decide) (fun c10 => ?_) (fun c10 => ?_)
    · rw [if_pos c10] at hf0
      refine r_iconst (v := 0) C dX4_scanWord_85 (by decide) ?_
      refine r_istore (lv' := [(5, .int (0 : Int32)), (0, .ref t2), (1, .int t3), (2, .long t4), (4, .int t5)]) C dX4_scanWord_86 (by decide) rfl rfl ?_
      obtain ⟨y11, hl88, hf0⟩ := ob hf0
      have L88 : ∀ (n : Nat) (t12 : Int32), whileL n (fun q : Int32 => f_X4_scanWord_b88 h8 t2 t4 q) t12 = some y11 → gW p l e (rmO 1 0 0) s m args below meth c (MQ below (eQ D cA B Hb out.2 (some (.int out.1))) args s 0 0 (fun q => B ≤ q)) D cA B Hb 6 h8 88 [(0, .ref t2), (2, .long t4), (5, .int t12)] [] 0 0 := by
        intro n
        induction n with
        | zero => intro t12 hz; cases hz
        | succ n ih88 =>
          intro t12 hz
          obtain ⟨x88, hf1, hk88⟩ := wl hz
          replace hf1 : f_X4_scanWord_b88 h8 t2 t4 t12 = some x88 := hf1
          unfold f_X4_scanWord_b88 at hf1
          refine r_iload C dX4_scanWord_88 rfl ?_
          refine r_bipush (v := 27) C dX4_scanWord_90 (by decide) ?_
          refine r_icmp_ge (tgt := 119) C dX4_scanWord_92 (by decide) (fun c13 => ?_) (fun c13 => ?_)
          · rw [if_pos c13] at hf1
            obtain rfl := so hf1
            obtain rfl := so (show some (.inr () : (Int32) ⊕ (Unit)) = some y11 from hk88)
            dsimp only at hf0
            refine r_bipush (v := 6) C dX4_scanWord_119 (by decide) ?_
            obtain rfl := so hf0
            exact r_iret C dX4_scanWord_121
          · rw [if_neg c13] at hf1
            refine r_aload_n C dX4_scanWord_95 rfl ?_
            obtain ⟨t14, e15, hf1⟩ := ob hf1
            refine r_getR C fk_X4_15 rfl dX4_scanWord_96 e15 ?_
            refine r_iload C dX4_scanWord_99 rfl ?_
            obtain ⟨t16, e17, hf1⟩ := ob hf1
            refine r_ldJ C dX4_scanWord_101 e17 ?_
            refine r_lload_n C dX4_scanWord_102 rfl ?_
            refine r_lcmp C dX4_scanWord_103 ?_
            refine r_ifne (tgt := 113) C dX4_scanWord_104 (by decide) (fun c18 => ?_) (fun c18 => ?_)
            · rw [if_neg c18] at hf1
              obtain ⟨t19, e20, hf1⟩ := ob hf1
              refine r_iinc (lv' := [(5, .int t19), (0, .ref t2), (2, .long t4)]) C dX4_scanWord_113 rfl e20 (by decide) rfl ?_
              refine r_goto (tgt := 88) C dX4_scanWord_116 (by decide) ?_
              obtain rfl := so hf1
              refine r_subk [1, 2, 0] (lv' := [(0, .ref t2), (2, .long t4), (5, .int t19)]) rfl ?_
              exact ih88 t19 hk88
            · rw [if_pos c18] at hf1
              obtain rfl := so hf1
              obtain rfl := so (show some (.inl t12 : (Int32) ⊕ (Unit)) = some y11 from hk88)
              dsimp only at hf0
              refine r_bipush (v := 8) C dX4_scanWord_107 (by decide) ?_
              refine r_iload C dX4_scanWord_109 rfl ?_
              refine r_iadd C dX4_scanWord_111 ?_
              obtain rfl := so hf0
              exact r_iret C dX4_scanWord_112
      refine r_subk [1, 3, 0] (lv' := [(0, .ref t2), (2, .long t4), (5, .int (0 : Int32))]) rfl ?_
      exact L88 wN (0 : Int32) hl88
    · rw [if_neg c10] at hf0
      refine r_bipush (v := 7) C dX4_scanWord_82 (by decide) ?_
      obtain rfl := so hf0
      exact r_iret C dX4_scanWord_84
  refine r_lconst (v := 0) C dX4_scanWord_0 (by decide) ?_
  refine r_lstore_n (lv' := [(2, .long (0 : Int64)), (0, .ref v0), (1, .int v1)]) C dX4_scanWord_1 (by decide) rfl rfl ?_
  refine r_iconst (v := 0) C dX4_scanWord_2 (by decide) ?_
  refine r_istore (lv' := [(4, .int (0 : Int32)), (2, .long (0 : Int64)), (0, .ref v0), (1, .int v1)]) C dX4_scanWord_3 (by decide) rfl rfl ?_
  obtain ⟨y21, y22, y23, hl5, hf0⟩ := ob3 hf0
  have L5 : ∀ (n : Nat) (t24 : Int64) (t25 : Int32) (h26 : aH), whileL n (fun q : Int64 × Int32 × aH => f_X4_scanWord_b5 v0 v1 q.1 q.2.1 q.2.2) (t24, t25, h26) = some (y21, y22, y23) → gW p l e (rmO 1 0 0) s m args below meth c (MQ below (eQ D cA B Hb out.2 (some (.int out.1))) args s 0 0 (fun q => B ≤ q)) D cA B Hb 6 h26 5 [(0, .ref v0), (1, .int v1), (2, .long t24), (4, .int t25)] [] 0 0 := by
    intro n
    induction n with
    | zero => intro t24 t25 h26 hz; cases hz
    | succ n ih5 =>
      intro t24 t25 h26 hz
      obtain ⟨x5, hf1, hk5⟩ := wl hz
      replace hf1 : f_X4_scanWord_b5 v0 v1 t24 t25 h26 = some x5 := hf1
      unfold f_X4_scanWord_b5 at hf1
      have J52 : ∀ (h27 : aH) (t28 : Int64) (t29 : Int32), f_X4_scanWord_j52 h27 v0 v1 t28 t29 = some x5 → gW p l e (rmO 1 0 0) s m args below meth c (MQ below (eQ D cA B Hb out.2 (some (.int out.1))) args s 0 0 (fun q => B ≤ q)) D cA B Hb 6 h27 52 [(0, .ref v0), (1, .int v1), (2, .long t28), (4, .int t29)] [] 0 0 := by
        intro h27 t28 t29 hf1
        unfold f_X4_scanWord_j52 at hf1
        obtain ⟨t30, e31, hf1⟩ := ob hf1
        refine r_iinc (lv' := [(4, .int t30), (0, .ref v0), (1, .int v1), (2, .long t28)]) C dX4_scanWord_52 rfl e31 (by decide) rfl ?_
        refine r_aload_n C dX4_scanWord_55 rfl ?_
        refine r_dup C dX4_scanWord_56 rfl ?_
        obtain ⟨t32, e33, hf1⟩ := ob hf1
        refine r_getI C fk_X4_39 rfl dX4_scanWord_57 e33 ?_
        refine r_iconst (v := 1) C dX4_scanWord_60 (by decide) ?_
        refine r_iadd C dX4_scanWord_61 ?_
        obtain ⟨h34, e35, hf1⟩ := ob hf1
        refine r_putI C fk_X4_39 dX4_scanWord_62 e35 ?_
        refine r_goto (tgt := 5) C dX4_scanWord_65 (by decide) ?_
        obtain rfl := so hf1
        refine r_subk [1, 2, 3, 0] (lv' := [(0, .ref v0), (1, .int v1), (2, .long t28), (4, .int t30)]) rfl ?_
        exact ih5 t28 t30 h34 hk5
      refine r_aload_n C dX4_scanWord_5 rfl ?_
      obtain ⟨t36, e37, hf1⟩ := ob hf1
      refine r_getI C fk_X4_39 rfl dX4_scanWord_6 e37 ?_
      refine r_aload_n C dX4_scanWord_9 rfl ?_
      obtain ⟨t38, e39, hf1⟩ := ob hf1
      refine r_getI C fk_X4_36 rfl dX4_scanWord_10 e39 ?_
      refine r_icmp_ge (tgt := 68) C dX4_scanWord_13 (by decide) (fun c40 => ?_) (fun c40 => ?_)
      · rw [if_pos c40] at hf1
        obtain rfl := so hf1
        obtain ⟨rfl, rfl, rfl⟩ := so3 (show some (t24, t25, h26) = some (y21, y22, y23) from hk5)
        exact J68 h26 v0 v1 t24 t25 hf0
      · rw [if_neg c40] at hf1
        refine r_aload_n C dX4_scanWord_16 rfl ?_
        obtain ⟨t41, e42, hf1⟩ := ob hf1
        refine r_getR C fk_X4_9 rfl dX4_scanWord_17 e42 ?_
        refine r_aload_n C dX4_scanWord_20 rfl ?_
        obtain ⟨t43, e44, hf1⟩ := ob hf1
        refine r_getI C fk_X4_39 rfl dX4_scanWord_21 e44 ?_
        obtain ⟨t45, e46, hf1⟩ := ob hf1
        refine r_ldB C dX4_scanWord_24 e46 ?_
        obtain ⟨t47, e48, hf1⟩ := ob hf1
        refine r_cS (rest := []) (st2 := [.int t47]) C (s_X4_isLetter e48) mk_X4_isLetter sm_X4_isLetter lk_X4_84 rfl rfl rfl dX4_scanWord_25 (Nat.le_of_ble_eq_true rfl) ⟨Nat.le_of_ble_eq_true rfl, Nat.le_of_ble_eq_true rfl⟩ ⟨Nat.le_of_ble_eq_true rfl, Nat.le_of_ble_eq_true rfl⟩ ?_
        refine r_ifeq (tgt := 68) C dX4_scanWord_28 (by decide) (fun c49 => ?_) (fun c49 => ?_)
        · rw [if_pos c49] at hf1
          obtain rfl := so hf1
          obtain ⟨rfl, rfl, rfl⟩ := so3 (show some (t24, t25, h26) = some (y21, y22, y23) from hk5)
          exact J68 h26 v0 v1 t24 t25 hf0
        · rw [if_neg c49] at hf1
          refine r_iload C dX4_scanWord_31 rfl ?_
          refine r_bipush (v := 8) C dX4_scanWord_33 (by decide) ?_
          refine r_icmp_ge (tgt := 52) C dX4_scanWord_35 (by decide) (fun c50 => ?_) (fun c50 => ?_)
          · rw [if_pos c50] at hf1
            exact J52 h26 t24 t25 hf1
          · rw [if_neg c50] at hf1
            refine r_lload_n C dX4_scanWord_38 rfl ?_
            refine r_aload_n C dX4_scanWord_39 rfl ?_
            obtain ⟨t51, e52, hf1⟩ := ob hf1
            refine r_getR C fk_X4_9 rfl dX4_scanWord_40 e52 ?_
            refine r_aload_n C dX4_scanWord_43 rfl ?_
            obtain ⟨t53, e54, hf1⟩ := ob hf1
            refine r_getI C fk_X4_39 rfl dX4_scanWord_44 e54 ?_
            obtain ⟨t55, e56, hf1⟩ := ob hf1
            refine r_ldB C dX4_scanWord_47 e56 ?_
            obtain ⟨t57, e58, hf1⟩ := ob hf1
            refine r_cS (rest := []) (st2 := [.long t57]) C (s_X4_withLetter e58) mk_X4_withLetter sm_X4_withLetter lk_X4_69 rfl rfl rfl dX4_scanWord_48 (Nat.le_of_ble_eq_true rfl) ⟨Nat.le_of_ble_eq_true rfl, Nat.le_of_ble_eq_true rfl⟩ ⟨Nat.le_of_ble_eq_true rfl, Nat.le_of_ble_eq_true rfl⟩ ?_
            refine r_lstore_n (lv' := [(2, .long t57), (0, .ref v0), (1, .int v1), (4, .int t25)]) C dX4_scanWord_51 (by decide) rfl rfl ?_
            refine r_subk [1, 2, 0, 3] (lv' := [(0, .ref v0), (1, .int v1), (2, .long t57), (4, .int t25)]) rfl ?_
            exact J52 h26 t57 t25 hf1
  refine r_subk [2, 3, 1, 0] (lv' := [(0, .ref v0), (1, .int v1), (2, .long (0 : Int64)), (4, .int (0 : Int32))]) rfl ?_
  exact L5 wN (0 : Int64) (0 : Int32) h hl5
def f_X4_isDigit (h : aH) (v0 : Int32) : Option (Int32) := if v0 < (48 : Int32) then some (0 : Int32) else if (57 : Int32) < v0 then some (0 : Int32) else some (1 : Int32)
theorem s_X4_isDigit {h : aH} {v0 : Int32} {out : Int32} (hf0 : f_X4_isDigit h v0 = some out) : EV 0 yX4_isDigit cX4_isDigit 1 (some .boolean) h [.int v0] (some (.int out)) h 0 0 := by
  refine EV.of (own := RX4) (lv0 := [(0, .int v0)]) (by decide +kernel) rfl rfl (Nat.le_of_ble_eq_true rfl) ?_
  intro p l e s m args below meth c D cA B Hb C hin
  unfold f_X4_isDigit at hf0
  refine r_iload_n C dX4_isDigit_0 rfl ?_
  refine r_bipush (v := 48) C dX4_isDigit_1 (by decide) ?_
  refine r_icmp_lt (tgt := 16) C dX4_isDigit_3 (by decide) (fun c1 => ?_) (fun c1 => ?_)
  · rw [if_pos c1] at hf0
    refine r_iconst (v := 0) C dX4_isDigit_16 (by decide) ?_
    obtain rfl := so hf0
    exact r_zret C dX4_isDigit_17 (Or.inl rfl)
  · rw [if_neg c1] at hf0
    refine r_iload_n C dX4_isDigit_6 rfl ?_
    refine r_bipush (v := 57) C dX4_isDigit_7 (by decide) ?_
    refine r_icmp_gt (tgt := 16) C dX4_isDigit_9 (by decide) (fun c2 => ?_) (fun c2 => ?_)
    · rw [if_pos c2] at hf0
      refine r_iconst (v := 0) C dX4_isDigit_16 (by decide) ?_
      obtain rfl := so hf0
      exact r_zret C dX4_isDigit_17 (Or.inl rfl)
    · rw [if_neg c2] at hf0
      refine r_iconst (v := 1) C dX4_isDigit_12 (by decide) ?_
      refine r_goto (tgt := 17) C dX4_isDigit_13 (by decide) ?_
      obtain rfl := so hf0
      exact r_zret C dX4_isDigit_17 (Or.inr rfl)
def f_X4_scanNumber_j69 (h : aH) (v0 : Nat) (v1 : Int32) (v2 : Int32) (v3 : Int32) : Option (Int32 × aH) := (gR h 4 v0 4).bind fun t1 => (sI h t1 v1 v2).bind fun h2 => if v3 ≤ (4 : Int32) then some ((2 : Int32), h2) else some ((1 : Int32), h2)
def f_X4_scanNumber_j53 (h : aH) (v0 : Nat) (v1 : Int32) (v2 : Int32) (v3 : Int32) : Option ((Int32 × Int32 × aH) ⊕ (Int32 × Int32 × aH)) := (some (v3 + (1 : Int32))).bind fun t3 => (gI h 4 v0 8).bind fun t4 => (pI h 4 v0 8 (t4 + (1 : Int32))).bind fun h5 => some (.inl (v2, t3, h5))
def f_X4_scanNumber_b4 (v0 : Nat) (v1 : Int32) (v2 : Int32) (v3 : Int32) (h : aH) : Option ((Int32 × Int32 × aH) ⊕ (Int32 × Int32 × aH)) := (gI h 4 v0 8).bind fun t6 => (gI h 4 v0 7).bind fun t7 => if t7 ≤ t6 then some (.inr (v2, v3, h)) else (gR h 4 v0 0).bind fun t8 => (gI h 4 v0 8).bind fun t9 => (lB h t8 t9).bind fun t10 => (f_X4_isDigit h t10).bind fun t11 => if t11 = 0 then some (.inr (v2, v3, h)) else if (4 : Int32) ≤ v3 then f_X4_scanNumber_j53 h v0 v1 v2 v3 else (gR h 4 v0 0).bind fun t12 => (gI h 4 v0 8).bind fun t13 => (lB h t12 t13).bind fun t14 => (some ((v2 * (10 : Int32)) + (t14 - (48 : Int32)))).bind fun t15 => f_X4_scanNumber_j53 h v0 v1 t15 v3
def f_X4_scanNumber_l4 (v0 : Nat) (v1 : Int32) (v2 : Int32) (v3 : Int32) (h : aH) : Option (Int32 × Int32 × aH) := whileL wN (fun q : Int32 × Int32 × aH => f_X4_scanNumber_b4 v0 v1 q.1 q.2.1 q.2.2) (v2, v3, h)
def f_X4_scanNumber (h : aH) (v0 : Nat) (v1 : Int32) : Option (Int32 × aH) := bd3 (f_X4_scanNumber_l4 v0 v1 (0 : Int32) (0 : Int32) h) fun t16 t17 h18 => f_X4_scanNumber_j69 h18 v0 v1 t16 t17
theorem s_X4_scanNumber {h : aH} {v0 : Nat} {v1 : Int32} {out : Int32 × aH} (hf0 : f_X4_scanNumber h v0 v1 = some out) : EV 1 yX4_scanNumber cX4_scanNumber 4 (some .int) h [.ref v0, .int v1] (some (.int out.1)) out.2 0 0 := by
  refine EV.of (own := RX4) (lv0 := [(0, .ref v0), (1, .int v1)]) (by decide +kernel) rfl rfl (Nat.le_of_ble_eq_true rfl) ?_
  intro p l e s m args below meth c D cA B Hb C hin
  unfold f_X4_scanNumber at hf0
  have J69 : ∀ (h1 : aH) (t2 : Nat) (t3 : Int32) (t4 : Int32) (t5 : Int32), f_X4_scanNumber_j69 h1 t2 t3 t4 t5 = some out → gW p l e (rmO 1 0 0) s m args below meth c (MQ below (eQ D cA B Hb out.2 (some (.int out.1))) args s 0 0 (fun q => B ≤ q)) D cA B Hb 4 h1 69 [(0, .ref t2), (1, .int t3), (2, .int t4), (3, .int t5)] [] 0 0 := by
    intro h1 t2 t3 t4 t5 hf0
    unfold f_X4_scanNumber_j69 at hf0
    refine r_aload_n C dX4_scanNumber_69 rfl ?_
    obtain ⟨t6, e7, hf0⟩ := ob hf0
    refine r_getR C fk_X4_26 rfl dX4_scanNumber_70 e7 ?_
    refine r_iload_n C dX4_scanNumber_73 rfl ?_
    refine r_iload_n C dX4_scanNumber_74 rfl ?_
    obtain ⟨h8, e9, hf0⟩ := ob hf0
    refine r_stI C dX4_scanNumber_75 e9 ?_
    refine r_iload_n C dX4_scanNumber_76 rfl ?_
    refine r_iconst (v := 4) C dX4_scanNumber_77 (by decide) ?_
    refine r_icmp_le (tgt := 85) C dX4_scanNumber_78 (by decide) (fun c10 => ?_) (fun c10 => ?_)
    · rw [if_pos c10] at hf0
      refine r_iconst (v := 2) C dX4_scanNumber_85 (by decide) ?_
      obtain rfl := so hf0
      exact r_iret C dX4_scanNumber_86
    · rw [if_neg c10] at hf0
      refine r_iconst (v := 1) C dX4_scanNumber_81 (by decide) ?_
      refine r_goto (tgt := 86) C dX4_scanNumber_82 (by decide) ?_
      obtain rfl := so hf0
      exact r_iret C dX4_scanNumber_86
  refine r_iconst (v := 0) C dX4_scanNumber_0 (by decide) ?_
  refine r_istore_n (lv' := [(2, .int (0 : Int32)), (0, .ref v0), (1, .int v1)]) C dX4_scanNumber_1 (by decide) rfl rfl ?_
  refine r_iconst (v := 0) C dX4_scanNumber_2 (by decide) ?_
  refine r_istore_n (lv' := [(3, .int (0 : Int32)), (2, .int (0 : Int32)), (0, .ref v0), (1, .int v1)]) C dX4_scanNumber_3 (by decide) rfl rfl ?_
  obtain ⟨y11, y12, y13, hl4, hf0⟩ := ob3 hf0
  have L4 : ∀ (n : Nat) (t14 : Int32) (t15 : Int32) (h16 : aH), whileL n (fun q : Int32 × Int32 × aH => f_X4_scanNumber_b4 v0 v1 q.1 q.2.1 q.2.2) (t14, t15, h16) = some (y11, y12, y13) → gW p l e (rmO 1 0 0) s m args below meth c (MQ below (eQ D cA B Hb out.2 (some (.int out.1))) args s 0 0 (fun q => B ≤ q)) D cA B Hb 4 h16 4 [(0, .ref v0), (1, .int v1), (2, .int t14), (3, .int t15)] [] 0 0 := by
    intro n
    induction n with
    | zero => intro t14 t15 h16 hz; cases hz
    | succ n ih4 =>
      intro t14 t15 h16 hz
      obtain ⟨x4, hf1, hk4⟩ := wl hz
      replace hf1 : f_X4_scanNumber_b4 v0 v1 t14 t15 h16 = some x4 := hf1
      unfold f_X4_scanNumber_b4 at hf1
      have J53 : ∀ (h17 : aH) (t18 : Int32) (t19 : Int32), f_X4_scanNumber_j53 h17 v0 v1 t18 t19 = some x4 → gW p l e (rmO 1 0 0) s m args below meth c (MQ below (eQ D cA B Hb out.2 (some (.int out.1))) args s 0 0 (fun q => B ≤ q)) D cA B Hb 4 h17 53 [(0, .ref v0), (1, .int v1), (2, .int t18), (3, .int t19)] [] 0 0 := by
        intro h17 t18 t19 hf1
        unfold f_X4_scanNumber_j53 at hf1
        obtain ⟨t20, e21, hf1⟩ := ob hf1
        refine r_iinc (lv' := [(3, .int t20), (0, .ref v0), (1, .int v1), (2, .int t18)]) C dX4_scanNumber_53 rfl e21 (by decide) rfl ?_
        refine r_aload_n C dX4_scanNumber_56 rfl ?_
        refine r_dup C dX4_scanNumber_57 rfl ?_
        obtain ⟨t22, e23, hf1⟩ := ob hf1
        refine r_getI C fk_X4_39 rfl dX4_scanNumber_58 e23 ?_
        refine r_iconst (v := 1) C dX4_scanNumber_61 (by decide) ?_
        refine r_iadd C dX4_scanNumber_62 ?_
        obtain ⟨h24, e25, hf1⟩ := ob hf1
        refine r_putI C fk_X4_39 dX4_scanNumber_63 e25 ?_
        refine r_goto (tgt := 4) C dX4_scanNumber_66 (by decide) ?_
        obtain rfl := so hf1
        refine r_subk [1, 2, 3, 0] (lv' := [(0, .ref v0), (1, .int v1), (2, .int t18), (3, .int t20)]) rfl ?_
        exact ih4 t18 t20 h24 hk4
      refine r_aload_n C dX4_scanNumber_4 rfl ?_
      obtain ⟨t26, e27, hf1⟩ := ob hf1
      refine r_getI C fk_X4_39 rfl dX4_scanNumber_5 e27 ?_
      refine r_aload_n C dX4_scanNumber_8 rfl ?_
      obtain ⟨t28, e29, hf1⟩ := ob hf1
      refine r_getI C fk_X4_36 rfl dX4_scanNumber_9 e29 ?_
      refine r_icmp_ge (tgt := 69) C dX4_scanNumber_12 (by decide) (fun c30 => ?_) (fun c30 => ?_)
      · rw [if_pos c30] at hf1
        obtain rfl := so hf1
        obtain ⟨rfl, rfl, rfl⟩ := so3 (show some (t14, t15, h16) = some (y11, y12, y13) from hk4)
        exact J69 h16 v0 v1 t14 t15 hf0
      · rw [if_neg c30] at hf1
        refine r_aload_n C dX4_scanNumber_15 rfl ?_
        obtain ⟨t31, e32, hf1⟩ := ob hf1
        refine r_getR C fk_X4_9 rfl dX4_scanNumber_16 e32 ?_
        refine r_aload_n C dX4_scanNumber_19 rfl ?_
        obtain ⟨t33, e34, hf1⟩ := ob hf1
        refine r_getI C fk_X4_39 rfl dX4_scanNumber_20 e34 ?_
        obtain ⟨t35, e36, hf1⟩ := ob hf1
        refine r_ldB C dX4_scanNumber_23 e36 ?_
        obtain ⟨t37, e38, hf1⟩ := ob hf1
        refine r_cS (rest := []) (st2 := [.int t37]) C (s_X4_isDigit e38) mk_X4_isDigit sm_X4_isDigit lk_X4_90 rfl rfl rfl dX4_scanNumber_24 (Nat.le_of_ble_eq_true rfl) ⟨Nat.le_of_ble_eq_true rfl, Nat.le_of_ble_eq_true rfl⟩ ⟨Nat.le_of_ble_eq_true rfl, Nat.le_of_ble_eq_true rfl⟩ ?_
        refine r_ifeq (tgt := 69) C dX4_scanNumber_27 (by decide) (fun c39 => ?_) (fun c39 => ?_)
        · rw [if_pos c39] at hf1
          obtain rfl := so hf1
          obtain ⟨rfl, rfl, rfl⟩ := so3 (show some (t14, t15, h16) = some (y11, y12, y13) from hk4)
          exact J69 h16 v0 v1 t14 t15 hf0
        · rw [if_neg c39] at hf1
          refine r_iload_n C dX4_scanNumber_30 rfl ?_
          refine r_iconst (v := 4) C dX4_scanNumber_31 (by decide) ?_
          refine r_icmp_ge (tgt := 53) C dX4_scanNumber_32 (by decide) (fun c40 => ?_) (fun c40 => ?_)
          · rw [if_pos c40] at hf1
            exact J53 h16 t14 t15 hf1
          · rw [if_neg c40] at hf1
            refine r_iload_n C dX4_scanNumber_35 rfl ?_
            refine r_bipush (v := 10) C dX4_scanNumber_36 (by decide) ?_
            refine r_imul C dX4_scanNumber_38 ?_
            refine r_aload_n C dX4_scanNumber_39 rfl ?_
            obtain ⟨t41, e42, hf1⟩ := ob hf1
            refine r_getR C fk_X4_9 rfl dX4_scanNumber_40 e42 ?_
            refine r_aload_n C dX4_scanNumber_43 rfl ?_
            obtain ⟨t43, e44, hf1⟩ := ob hf1
            refine r_getI C fk_X4_39 rfl dX4_scanNumber_44 e44 ?_
            obtain ⟨t45, e46, hf1⟩ := ob hf1
            refine r_ldB C dX4_scanNumber_47 e46 ?_
            refine r_bipush (v := 48) C dX4_scanNumber_48 (by decide) ?_
            refine r_isub C dX4_scanNumber_50 ?_
            refine r_iadd C dX4_scanNumber_51 ?_
            obtain ⟨t47, e48, hf1⟩ := ob hf1
            refine r_istore_n (lv' := [(2, .int t47), (0, .ref v0), (1, .int v1), (3, .int t15)]) C dX4_scanNumber_52 (by decide) e48 rfl ?_
            refine r_subk [1, 2, 0, 3] (lv' := [(0, .ref v0), (1, .int v1), (2, .int t47), (3, .int t15)]) rfl ?_
            exact J53 h16 t47 t15 hf1
  refine r_subk [2, 3, 1, 0] (lv' := [(0, .ref v0), (1, .int v1), (2, .int (0 : Int32)), (3, .int (0 : Int32))]) rfl ?_
  exact L4 wN (0 : Int32) (0 : Int32) h hl4
def f_X4_signOf (h : aH) (v0 : Int32) : Option (Int32) := if v0 = (40 : Int32) then some (4 : Int32) else if v0 = (41 : Int32) then some (5 : Int32) else if v0 = (59 : Int32) then some (3 : Int32) else some (1 : Int32)
theorem s_X4_signOf {h : aH} {v0 : Int32} {out : Int32} (hf0 : f_X4_signOf h v0 = some out) : EV 0 yX4_signOf cX4_signOf 1 (some .int) h [.int v0] (some (.int out)) h 0 0 := by
  refine EV.of (own := RX4) (lv0 := [(0, .int v0)]) (by decide +kernel) rfl rfl (Nat.le_of_ble_eq_true rfl) ?_
  intro p l e s m args below meth c D cA B Hb C hin
  unfold f_X4_signOf at hf0
  refine r_iload_n C dX4_signOf_0 rfl ?_
  by_cases c1 : v0 = (40 : Int32)
  · rw [if_pos c1] at hf0
    refine r_lookup (off := 37) (tgt := 38) C dX4_signOf_1 (by decide) (by rw [c1]; decide) (by decide) ?_
    refine r_iconst (v := 4) C dX4_signOf_38 (by decide) ?_
    obtain rfl := so hf0
    exact r_iret C dX4_signOf_39
  · rw [if_neg c1] at hf0
    by_cases c2 : v0 = (41 : Int32)
    · rw [if_pos c2] at hf0
      refine r_lookup (off := 39) (tgt := 40) C dX4_signOf_1 (by decide) (by rw [c2]; decide) (by decide) ?_
      refine r_iconst (v := 5) C dX4_signOf_40 (by decide) ?_
      obtain rfl := so hf0
      exact r_iret C dX4_signOf_41
    · rw [if_neg c2] at hf0
      by_cases c3 : v0 = (59 : Int32)
      · rw [if_pos c3] at hf0
        refine r_lookup (off := 35) (tgt := 36) C dX4_signOf_1 (by decide) (by rw [c3]; decide) (by decide) ?_
        refine r_iconst (v := 3) C dX4_signOf_36 (by decide) ?_
        obtain rfl := so hf0
        exact r_iret C dX4_signOf_37
      · rw [if_neg c3] at hf0
        refine r_lookup (off := 41) (tgt := 42) C dX4_signOf_1 (by decide) (by show lookupswitch.offset [(40, 37), (41, 39), (59, 35)] 41 _ = _; simp only [lookupswitch.offset_cons, lookupswitch.offset_nil, if_neg (lne (j := 40) c1 (by decide)), if_neg (lne (j := 41) c2 (by decide)), if_neg (lne (j := 59) c3 (by decide))]) (by decide) ?_
        refine r_iconst (v := 1) C dX4_signOf_42 (by decide) ?_
        obtain rfl := so hf0
        exact r_iret C dX4_signOf_43
def f_X4_scan_j39 (h : aH) (v0 : Nat) (v1 : Int32) : Option (Int32 × aH) := (gR h 4 v0 3).bind fun t1 => (gI h 4 v0 8).bind fun t2 => (sI h t1 v1 t2).bind fun h3 => (gI h3 4 v0 8).bind fun t4 => (gI h3 4 v0 7).bind fun t5 => if t4 < t5 then (gR h3 4 v0 0).bind fun t6 => (gI h3 4 v0 8).bind fun t7 => (lB h3 t6 t7).bind fun t8 => (f_X4_isLetter h3 t8).bind fun t9 => if t9 = 0 then (gR h3 4 v0 0).bind fun t10 => (gI h3 4 v0 8).bind fun t11 => (lB h3 t10 t11).bind fun t12 => (f_X4_isDigit h3 t12).bind fun t13 => if t13 = 0 then (gI h3 4 v0 8).bind fun t14 => (pI h3 4 v0 8 (t14 + (1 : Int32))).bind fun h15 => (gR h15 4 v0 0).bind fun t16 => (gI h15 4 v0 8).bind fun t17 => (lB h15 t16 (t17 - (1 : Int32))).bind fun t18 => (f_X4_signOf h15 t18).bind fun t19 => some (t19, h15) else (ck h3 4 v0).bind fun _ => bd2 (f_X4_scanNumber h3 v0 v1) fun t20 h21 => some (t20, h21) else (ck h3 4 v0).bind fun _ => bd2 (f_X4_scanWord h3 v0 v1) fun t22 h23 => some (t22, h23) else some ((0 : Int32), h3)
def f_X4_scan_b0 (v0 : Nat) (v1 : Int32) (h : aH) : Option ((aH) ⊕ (aH)) := (gI h 4 v0 8).bind fun t24 => (gI h 4 v0 7).bind fun t25 => if t25 ≤ t24 then some (.inr h) else (gR h 4 v0 0).bind fun t26 => (gI h 4 v0 8).bind fun t27 => (lB h t26 t27).bind fun t28 => (f_X4_isBlank h t28).bind fun t29 => if t29 = 0 then some (.inr h) else (gI h 4 v0 8).bind fun t30 => (pI h 4 v0 8 (t30 + (1 : Int32))).bind fun h31 => some (.inl h31)
def f_X4_scan_l0 (v0 : Nat) (v1 : Int32) (h : aH) : Option (aH) := whileL wN (fun q : aH => f_X4_scan_b0 v0 v1 q) h
def f_X4_scan (h : aH) (v0 : Nat) (v1 : Int32) : Option (Int32 × aH) := (f_X4_scan_l0 v0 v1 h).bind fun h32 => f_X4_scan_j39 h32 v0 v1
theorem s_X4_scan {h : aH} {v0 : Nat} {v1 : Int32} {out : Int32 × aH} (hf0 : f_X4_scan h v0 v1 = some out) : EV 2 yX4_scan cX4_scan 2 (some .int) h [.ref v0, .int v1] (some (.int out.1)) out.2 0 0 := by
  refine EV.of (own := RX4) (lv0 := [(0, .ref v0), (1, .int v1)]) (by decide +kernel) rfl rfl (Nat.le_of_ble_eq_true rfl) ?_
  intro p l e s m args below meth c D cA B Hb C hin
  unfold f_X4_scan at hf0
  have J39 : ∀ (h1 : aH) (t2 : Nat) (t3 : Int32), f_X4_scan_j39 h1 t2 t3 = some out → gW p l e (rmO 2 0 0) s m args below meth c (MQ below (eQ D cA B Hb out.2 (some (.int out.1))) args s 0 0 (fun q => B ≤ q)) D cA B Hb 2 h1 39 [(0, .ref t2), (1, .int t3)] [] 0 0 := by
    intro h1 t2 t3 hf0
    unfold f_X4_scan_j39 at hf0
    refine r_aload_n C dX4_scan_39 rfl ?_
    obtain ⟨t4, e5, hf0⟩ := ob hf0
    refine r_getR C fk_X4_23 rfl dX4_scan_40 e5 ?_
    refine r_iload_n C dX4_scan_43 rfl ?_
    refine r_aload_n C dX4_scan_44 rfl ?_
    obtain ⟨t6, e7, hf0⟩ := ob hf0
    refine r_getI C fk_X4_39 rfl dX4_scan_45 e7 ?_
    obtain ⟨h8, e9, hf0⟩ := ob hf0
    refine r_stI C dX4_scan_48 e9 ?_
    refine r_aload_n C dX4_scan_49 rfl ?_
    obtain ⟨t10, e11, hf0⟩ := ob hf0
    refine r_getI C fk_X4_39 rfl dX4_scan_50 e11 ?_
    refine r_aload_n C dX4_scan_53 rfl ?_
    obtain ⟨t12, e13, hf0⟩ := ob hf0
    refine r_getI C fk_X4_36 rfl dX4_scan_54 e13 ?_
    refine r_icmp_lt (tgt := 62) C dX4_scan_57 (by decide) (fun c14 => ?_) (fun c14 => ?_)
    · rw [if_pos c14] at hf0
      refine r_aload_n C dX4_scan_62 rfl ?_
      obtain ⟨t15, e16, hf0⟩ := ob hf0
      refine r_getR C fk_X4_9 rfl dX4_scan_63 e16 ?_
      refine r_aload_n C dX4_scan_66 rfl ?_
      obtain ⟨t17, e18, hf0⟩ := ob hf0
      refine r_getI C fk_X4_39 rfl dX4_scan_67 e18 ?_
      obtain ⟨t19, e20, hf0⟩ := ob hf0
      refine r_ldB C dX4_scan_70 e20 ?_
      obtain ⟨t21, e22, hf0⟩ := ob hf0
      refine r_cS (rest := []) (st2 := [.int t21]) C (s_X4_isLetter e22) mk_X4_isLetter sm_X4_isLetter lk_X4_84 rfl rfl rfl dX4_scan_71 (Nat.le_of_ble_eq_true rfl) ⟨Nat.le_of_ble_eq_true rfl, Nat.le_of_ble_eq_true rfl⟩ ⟨Nat.le_of_ble_eq_true rfl, Nat.le_of_ble_eq_true rfl⟩ ?_
      refine r_ifeq (tgt := 83) C dX4_scan_74 (by decide) (fun c23 => ?_) (fun c23 => ?_)
      · rw [if_pos c23] at hf0
        refine r_aload_n C dX4_scan_83 rfl ?_
        obtain ⟨t24, e25, hf0⟩ := ob hf0
        refine r_getR C fk_X4_9 rfl dX4_scan_84 e25 ?_
        refine r_aload_n C dX4_scan_87 rfl ?_
        obtain ⟨t26, e27, hf0⟩ := ob hf0
        refine r_getI C fk_X4_39 rfl dX4_scan_88 e27 ?_
        obtain ⟨t28, e29, hf0⟩ := ob hf0
        refine r_ldB C dX4_scan_91 e29 ?_
        obtain ⟨t30, e31, hf0⟩ := ob hf0
        refine r_cS (rest := []) (st2 := [.int t30]) C (s_X4_isDigit e31) mk_X4_isDigit sm_X4_isDigit lk_X4_90 rfl rfl rfl dX4_scan_92 (Nat.le_of_ble_eq_true rfl) ⟨Nat.le_of_ble_eq_true rfl, Nat.le_of_ble_eq_true rfl⟩ ⟨Nat.le_of_ble_eq_true rfl, Nat.le_of_ble_eq_true rfl⟩ ?_
        refine r_ifeq (tgt := 104) C dX4_scan_95 (by decide) (fun c32 => ?_) (fun c32 => ?_)
        · rw [if_pos c32] at hf0
          refine r_aload_n C dX4_scan_104 rfl ?_
          refine r_dup C dX4_scan_105 rfl ?_
          obtain ⟨t33, e34, hf0⟩ := ob hf0
          refine r_getI C fk_X4_39 rfl dX4_scan_106 e34 ?_
          refine r_iconst (v := 1) C dX4_scan_109 (by decide) ?_
          refine r_iadd C dX4_scan_110 ?_
          obtain ⟨h35, e36, hf0⟩ := ob hf0
          refine r_putI C fk_X4_39 dX4_scan_111 e36 ?_
          refine r_aload_n C dX4_scan_114 rfl ?_
          obtain ⟨t37, e38, hf0⟩ := ob hf0
          refine r_getR C fk_X4_9 rfl dX4_scan_115 e38 ?_
          refine r_aload_n C dX4_scan_118 rfl ?_
          obtain ⟨t39, e40, hf0⟩ := ob hf0
          refine r_getI C fk_X4_39 rfl dX4_scan_119 e40 ?_
          refine r_iconst (v := 1) C dX4_scan_122 (by decide) ?_
          refine r_isub C dX4_scan_123 ?_
          obtain ⟨t41, e42, hf0⟩ := ob hf0
          refine r_ldB C dX4_scan_124 e42 ?_
          obtain ⟨t43, e44, hf0⟩ := ob hf0
          refine r_cS (rest := []) (st2 := [.int t43]) C (s_X4_signOf e44) mk_X4_signOf sm_X4_signOf lk_X4_96 rfl rfl rfl dX4_scan_125 (Nat.le_of_ble_eq_true rfl) ⟨Nat.le_of_ble_eq_true rfl, Nat.le_of_ble_eq_true rfl⟩ ⟨Nat.le_of_ble_eq_true rfl, Nat.le_of_ble_eq_true rfl⟩ ?_
          obtain rfl := so hf0
          exact r_iret C dX4_scan_128
        · rw [if_neg c32] at hf0
          refine r_aload_n C dX4_scan_98 rfl ?_
          refine r_iload_n C dX4_scan_99 rfl ?_
          obtain ⟨u46, e45, hf0⟩ := ob hf0
          obtain ⟨t47, h48, e49, hf0⟩ := ob2 hf0
          refine r_cV (ci := 4) (rest := []) (st2 := [.int t47]) C (s_X4_scanNumber e49) mk_X4_scanNumber rfl (ck_k e45) (by decide) im_X4_scanNumber sl_X4_scanNumber lk_X4_93 rfl rfl rfl dX4_scan_100 (Nat.le_of_ble_eq_true rfl) ⟨Nat.le_of_ble_eq_true rfl, Nat.le_of_ble_eq_true rfl⟩ ⟨Nat.le_of_ble_eq_true rfl, Nat.le_of_ble_eq_true rfl⟩ ?_
          obtain rfl := so hf0
          exact r_iret C dX4_scan_103
      · rw [if_neg c23] at hf0
        refine r_aload_n C dX4_scan_77 rfl ?_
        refine r_iload_n C dX4_scan_78 rfl ?_
        obtain ⟨u51, e50, hf0⟩ := ob hf0
        obtain ⟨t52, h53, e54, hf0⟩ := ob2 hf0
        refine r_cV (ci := 4) (rest := []) (st2 := [.int t52]) C (s_X4_scanWord e54) mk_X4_scanWord rfl (ck_k e50) (by decide) im_X4_scanWord sl_X4_scanWord lk_X4_87 rfl rfl rfl dX4_scan_79 (Nat.le_of_ble_eq_true rfl) ⟨Nat.le_of_ble_eq_true rfl, Nat.le_of_ble_eq_true rfl⟩ ⟨Nat.le_of_ble_eq_true rfl, Nat.le_of_ble_eq_true rfl⟩ ?_
        obtain rfl := so hf0
        exact r_iret C dX4_scan_82
    · rw [if_neg c14] at hf0
      refine r_iconst (v := 0) C dX4_scan_60 (by decide) ?_
      obtain rfl := so hf0
      exact r_iret C dX4_scan_61
  obtain ⟨y55, hl0, hf0⟩ := ob hf0
  have L0 : ∀ (n : Nat) (h56 : aH), whileL n (fun q : aH => f_X4_scan_b0 v0 v1 q) h56 = some y55 → gW p l e (rmO 2 0 0) s m args below meth c (MQ below (eQ D cA B Hb out.2 (some (.int out.1))) args s 0 0 (fun q => B ≤ q)) D cA B Hb 2 h56 0 [(0, .ref v0), (1, .int v1)] [] 0 0 := by
    intro n
    induction n with
    | zero => intro h56 hz; cases hz
    | succ n ih0 =>
      intro h56 hz
      obtain ⟨x0, hf1, hk0⟩ := wl hz
      replace hf1 : f_X4_scan_b0 v0 v1 h56 = some x0 := hf1
      unfold f_X4_scan_b0 at hf1
      refine r_aload_n C dX4_scan_0 rfl ?_
      obtain ⟨t57, e58, hf1⟩ := ob hf1
      refine r_getI C fk_X4_39 rfl dX4_scan_1 e58 ?_
      refine r_aload_n C dX4_scan_4 rfl ?_
      obtain ⟨t59, e60, hf1⟩ := ob hf1
      refine r_getI C fk_X4_36 rfl dX4_scan_5 e60 ?_
      refine r_icmp_ge (tgt := 39) C dX4_scan_8 (by decide) (fun c61 => ?_) (fun c61 => ?_)
      · rw [if_pos c61] at hf1
        obtain rfl := so hf1
        obtain rfl := so (show some h56 = some y55 from hk0)
        exact J39 h56 v0 v1 hf0
      · rw [if_neg c61] at hf1
        refine r_aload_n C dX4_scan_11 rfl ?_
        obtain ⟨t62, e63, hf1⟩ := ob hf1
        refine r_getR C fk_X4_9 rfl dX4_scan_12 e63 ?_
        refine r_aload_n C dX4_scan_15 rfl ?_
        obtain ⟨t64, e65, hf1⟩ := ob hf1
        refine r_getI C fk_X4_39 rfl dX4_scan_16 e65 ?_
        obtain ⟨t66, e67, hf1⟩ := ob hf1
        refine r_ldB C dX4_scan_19 e67 ?_
        obtain ⟨t68, e69, hf1⟩ := ob hf1
        refine r_cS (rest := []) (st2 := [.int t68]) C (s_X4_isBlank e69) mk_X4_isBlank sm_X4_isBlank lk_X4_80 rfl rfl rfl dX4_scan_20 (Nat.le_of_ble_eq_true rfl) ⟨Nat.le_of_ble_eq_true rfl, Nat.le_of_ble_eq_true rfl⟩ ⟨Nat.le_of_ble_eq_true rfl, Nat.le_of_ble_eq_true rfl⟩ ?_
        refine r_ifeq (tgt := 39) C dX4_scan_23 (by decide) (fun c70 => ?_) (fun c70 => ?_)
        · rw [if_pos c70] at hf1
          obtain rfl := so hf1
          obtain rfl := so (show some h56 = some y55 from hk0)
          exact J39 h56 v0 v1 hf0
        · rw [if_neg c70] at hf1
          refine r_aload_n C dX4_scan_26 rfl ?_
          refine r_dup C dX4_scan_27 rfl ?_
          obtain ⟨t71, e72, hf1⟩ := ob hf1
          refine r_getI C fk_X4_39 rfl dX4_scan_28 e72 ?_
          refine r_iconst (v := 1) C dX4_scan_31 (by decide) ?_
          refine r_iadd C dX4_scan_32 ?_
          obtain ⟨h73, e74, hf1⟩ := ob hf1
          refine r_putI C fk_X4_39 dX4_scan_33 e74 ?_
          refine r_goto (tgt := 0) C dX4_scan_36 (by decide) ?_
          obtain rfl := so hf1
          exact ih0 h73 hk0
  exact L0 wN h hl0
