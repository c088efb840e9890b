def f_X4_open_j82 (h : aH) (v0 : Nat) : Option (aH) := (pI h 4 v0 9 (-1 : Int32)).bind fun h1 => (ck h1 4 v0).bind fun _ => (f_X4_advance h1 v0).bind fun h2 => some h2
def f_X4_open_j75 (h : aH) (v0 : Nat) (v3 : Int32) (s0 : Int32) : Option ((Int32 × Int32 × aH) ⊕ (aH)) := (some (v3 + (1 : Int32))).bind fun t8 => some (.inl (s0, t8, h))
def f_X4_open_j74 (h : aH) (v0 : Nat) (v3 : Int32) : Option ((Int32 × Int32 × aH) ⊕ (aH)) := f_X4_open_j75 h v0 v3 (0 : Int32)
def f_X4_open_b29 (v0 : Nat) (v2 : Int32) (v3 : Int32) (h : aH) : Option ((Int32 × Int32 × aH) ⊕ (aH)) := if (901 : Int32) ≤ v3 then some (.inr h) else if v2 = 0 then some (.inr h) else (gR h 4 v0 2).bind fun t9 => (ck h 4 v0).bind fun _ => bd2 (f_X4_scan h v0 v3) fun t10 h11 => (sI h11 t9 v3 t10).bind fun h12 => (gR h12 4 v0 2).bind fun t13 => (lI h12 t13 v3).bind fun t14 => if t14 = 0 then f_X4_open_j74 h12 v0 v3 else (gR h12 4 v0 2).bind fun t15 => (lI h12 t15 v3).bind fun t16 => if t16 = (1 : Int32) then f_X4_open_j74 h12 v0 v3 else f_X4_open_j75 h12 v0 v3 (1 : Int32)
def f_X4_open_l29 (v0 : Nat) (v2 : Int32) (v3 : Int32) (h : aH) : Option (aH) := whileL wN (fun q : Int32 × Int32 × aH => f_X4_open_b29 v0 q.1 q.2.1 q.2.2) (v2, v3, h)
def f_X4_open (h : aH) (v0 : Nat) (v1 : Int32) : Option (aH) := (pI h 4 v0 7 v1).bind fun h3 => (pI h3 4 v0 6 (0 : Int32)).bind fun h4 => (pI h4 4 v0 8 (0 : Int32)).bind fun h5 => (pI h5 4 v0 12 (0 : Int32)).bind fun h6 => (pI h6 4 v0 13 (-1 : Int32)).bind fun h7 => (f_X4_open_l29 v0 (1 : Int32) (0 : Int32) h7).bind fun h17 => f_X4_open_j82 h17 v0
theorem s_X4_open {h : aH} {v0 : Nat} {v1 : Int32} {out : aH} (hf0 : f_X4_open h v0 v1 = some out) : EV 3 yX4_open cX4_open 4 none h [.ref v0, .int v1] none out 0 0 := by
  refine EV.of (own := RX4) (lv0 := [(0, .ref v0), (1, .int v1)]) (by decide +kernel) rfl rfl (Nat.le_of_ble_eq_true rfl) ?_
  intro p l e s m args below meth c D cA B Hb C hin
  unfold f_X4_open at hf0
  have J82 : ∀ (h1 : aH) (t2 : Nat), f_X4_open_j82 h1 t2 = some out → gW p l e (rmO 3 0 0) s m args below meth c (MQ below (eQ D cA B Hb out none) args s 0 0 (fun q => B ≤ q)) D cA B Hb 4 h1 82 [(0, .ref t2)] [] 0 0 := by
    intro h1 t2 hf0
    unfold f_X4_open_j82 at hf0
    refine r_aload_n C dX4_open_82 rfl ?_
    refine r_iconst (v := -1) C dX4_open_83 (by decide) ?_
    obtain ⟨h3, e4, hf0⟩ := ob hf0
    refine r_putI C fk_X4_42 dX4_open_84 e4 ?_
    refine r_aload_n C dX4_open_87 rfl ?_
    obtain ⟨u6, e5, hf0⟩ := ob hf0
    obtain ⟨h7, e8, hf0⟩ := ob hf0
    refine r_cV (ci := 4) (rest := []) (st2 := []) C (s_X4_advance e8) mk_X4_advance rfl (ck_k e5) (by decide) im_X4_advance sl_X4_advance lk_X4_77 rfl rfl rfl dX4_open_88 (Nat.le_of_ble_eq_true rfl) ⟨Nat.le_of_ble_eq_true rfl, Nat.le_of_ble_eq_true rfl⟩ ⟨Nat.le_of_ble_eq_true rfl, Nat.le_of_ble_eq_true rfl⟩ ?_
    obtain rfl := so hf0
    exact r_vret C dX4_open_91
  refine r_aload_n C dX4_open_0 rfl ?_
  refine r_iload_n C dX4_open_1 rfl ?_
  obtain ⟨h9, e10, hf0⟩ := ob hf0
  refine r_putI C fk_X4_36 dX4_open_2 e10 ?_
  refine r_aload_n C dX4_open_5 rfl ?_
  refine r_iconst (v := 0) C dX4_open_6 (by decide) ?_
  obtain ⟨h11, e12, hf0⟩ := ob hf0
  refine r_putI C fk_X4_32 dX4_open_7 e12 ?_
  refine r_aload_n C dX4_open_10 rfl ?_
  refine r_iconst (v := 0) C dX4_open_11 (by decide) ?_
  obtain ⟨h13, e14, hf0⟩ := ob hf0
  refine r_putI C fk_X4_39 dX4_open_12 e14 ?_
  refine r_aload_n C dX4_open_15 rfl ?_
  refine r_iconst (v := 0) C dX4_open_16 (by decide) ?_
  obtain ⟨h15, e16, hf0⟩ := ob hf0
  refine r_putI C fk_X4_52 dX4_open_17 e16 ?_
  refine r_aload_n C dX4_open_20 rfl ?_
  refine r_iconst (v := -1) C dX4_open_21 (by decide) ?_
  obtain ⟨h17, e18, hf0⟩ := ob hf0
  refine r_putI C fk_X4_55 dX4_open_22 e18 ?_
  refine r_iconst (v := 1) C dX4_open_25 (by decide) ?_
  refine r_istore_n (lv' := [(2, .int (1 : Int32)), (0, .ref v0), (1, .int v1)]) C dX4_open_26 (by decide) rfl rfl ?_
  refine r_iconst (v := 0) C dX4_open_27 (by decide) ?_
  refine r_istore_n (lv' := [(3, .int (0 : Int32)), (2, .int (1 : Int32)), (0, .ref v0), (1, .int v1)]) C dX4_open_28 (by decide) rfl rfl ?_
  obtain ⟨y19, hl29, hf0⟩ := ob hf0
  have L29 : ∀ (n : Nat) (t20 : Int32) (t21 : Int32) (h22 : aH), whileL n (fun q : Int32 × Int32 × aH => f_X4_open_b29 v0 q.1 q.2.1 q.2.2) (t20, t21, h22) = some y19 → gW p l e (rmO 3 0 0) s m args below meth c (MQ below (eQ D cA B Hb out none) args s 0 0 (fun q => B ≤ q)) D cA B Hb 4 h22 29 [(0, .ref v0), (2, .int t20), (3, .int t21)] [] 0 0 := by
    intro n
    induction n with
    | zero => intro t20 t21 h22 hz; cases hz
    | succ n ih29 =>
      intro t20 t21 h22 hz
      obtain ⟨x29, hf1, hk29⟩ := wl hz
      replace hf1 : f_X4_open_b29 v0 t20 t21 h22 = some x29 := hf1
      unfold f_X4_open_b29 at hf1
      have J75 : ∀ (h23 : aH) (t24 : Int32) (t25 : Int32), f_X4_open_j75 h23 v0 t24 t25 = some x29 → gW p l e (rmO 3 0 0) s m args below meth c (MQ below (eQ D cA B Hb out none) args s 0 0 (fun q => B ≤ q)) D cA B Hb 4 h23 75 [(0, .ref v0), (3, .int t24)] [.int t25] 0 0 := by
        intro h23 t24 t25 hf1
        unfold f_X4_open_j75 at hf1
        refine r_istore_n (lv' := [(2, .int t25), (0, .ref v0), (3, .int t24)]) C dX4_open_75 (by decide) rfl rfl ?_
        obtain ⟨t26, e27, hf1⟩ := ob hf1
        refine r_iinc (lv' := [(3, .int t26), (2, .int t25), (0, .ref v0)]) C dX4_open_76 rfl e27 (by decide) rfl ?_
        refine r_goto (tgt := 29) C dX4_open_79 (by decide) ?_
        obtain rfl := so hf1
        refine r_subk [2, 1, 0] (lv' := [(0, .ref v0), (2, .int t25), (3, .int t26)]) rfl ?_
        exact ih29 t25 t26 h23 hk29
      have J74 : ∀ (h28 : aH) (t29 : Int32), f_X4_open_j74 h28 v0 t29 = some x29 → gW p l e (rmO 3 0 0) s m args below meth c (MQ below (eQ D cA B Hb out none) args s 0 0 (fun q => B ≤ q)) D cA B Hb 4 h28 74 [(0, .ref v0), (3, .int t29)] [] 0 0 := by
        intro h28 t29 hf1
        unfold f_X4_open_j74 at hf1
        refine r_iconst (v := 0) C dX4_open_74 (by decide) ?_
        exact J75 h28 t29 (0 : Int32) hf1
      refine r_iload_n C dX4_open_29 rfl ?_
      refine r_sipush (v := 901) C dX4_open_30 (by decide) ?_
      refine r_icmp_ge (tgt := 82) C dX4_open_33 (by decide) (fun c30 => ?_) (fun c30 => ?_)
      · rw [if_pos c30] at hf1
        obtain rfl := so hf1
        obtain rfl := so (show some h22 = some y19 from hk29)
        refine r_subk [0] (lv' := [(0, .ref v0)]) rfl ?_
        exact J82 h22 v0 hf0
      · rw [if_neg c30] at hf1
        refine r_iload_n C dX4_open_36 rfl ?_
        refine r_ifeq (tgt := 82) C dX4_open_37 (by decide) (fun c31 => ?_) (fun c31 => ?_)
        · rw [if_pos c31] at hf1
          obtain rfl := so hf1
          obtain rfl := so (show some h22 = some y19 from hk29)
          refine r_subk [0] (lv' := [(0, .ref v0)]) rfl ?_
          exact J82 h22 v0 hf0
        · rw [if_neg c31] at hf1
          refine r_aload_n C dX4_open_40 rfl ?_
          obtain ⟨t32, e33, hf1⟩ := ob hf1
          refine r_getR C fk_X4_19 rfl dX4_open_41 e33 ?_
          refine r_iload_n C dX4_open_44 rfl ?_
          refine r_aload_n C dX4_open_45 rfl ?_
          refine r_iload_n C dX4_open_46 rfl ?_
          obtain ⟨u35, e34, hf1⟩ := ob hf1
          obtain ⟨t36, h37, e38, hf1⟩ := ob2 hf1
          refine r_cV (ci := 4) (rest := [.int t21, .ref t32]) (st2 := [.int t36, .int t21, .ref t32]) C (s_X4_scan e38) mk_X4_scan rfl (ck_k e34) (by decide) im_X4_scan sl_X4_scan lk_X4_73 rfl rfl rfl dX4_open_47 (Nat.le_of_ble_eq_true rfl) ⟨Nat.le_of_ble_eq_true rfl, Nat.le_of_ble_eq_true rfl⟩ ⟨Nat.le_of_ble_eq_true rfl, Nat.le_of_ble_eq_true rfl⟩ ?_
          obtain ⟨h39, e40, hf1⟩ := ob hf1
          refine r_stI C dX4_open_50 e40 ?_
          refine r_aload_n C dX4_open_51 rfl ?_
          obtain ⟨t41, e42, hf1⟩ := ob hf1
          refine r_getR C fk_X4_19 rfl dX4_open_52 e42 ?_
          refine r_iload_n C dX4_open_55 rfl ?_
          obtain ⟨t43, e44, hf1⟩ := ob hf1
          refine r_ldI C dX4_open_56 e44 ?_
          refine r_ifeq (tgt := 74) C dX4_open_57 (by decide) (fun c45 => ?_) (fun c45 => ?_)
          · rw [if_pos c45] at hf1
            refine r_subk [0, 2] (lv' := [(0, .ref v0), (3, .int t21)]) rfl ?_
            exact J74 h39 t21 hf1
          · rw [if_neg c45] at hf1
            refine r_aload_n C dX4_open_60 rfl ?_
            obtain ⟨t46, e47, hf1⟩ := ob hf1
            refine r_getR C fk_X4_19 rfl dX4_open_61 e47 ?_
            refine r_iload_n C dX4_open_64 rfl ?_
            obtain ⟨t48, e49, hf1⟩ := ob hf1
            refine r_ldI C dX4_open_65 e49 ?_
            refine r_iconst (v := 1) C dX4_open_66 (by decide) ?_
            refine r_icmp_eq (tgt := 74) C dX4_open_67 (by decide) (fun c50 => ?_) (fun c50 => ?_)
            · rw [if_pos c50] at hf1
              refine r_subk [0, 2] (lv' := [(0, .ref v0), (3, .int t21)]) rfl ?_
              exact J74 h39 t21 hf1
            · rw [if_neg c50] at hf1
              refine r_iconst (v := 1) C dX4_open_70 (by decide) ?_
              refine r_goto (tgt := 75) C dX4_open_71 (by decide) ?_
              refine r_subk [0, 2] (lv' := [(0, .ref v0), (3, .int t21)]) rfl ?_
              exact J75 h39 t21 (1 : Int32) hf1
  refine r_subk [2, 1, 0] (lv' := [(0, .ref v0), (2, .int (1 : Int32)), (3, .int (0 : Int32))]) rfl ?_
  exact L29 wN (1 : Int32) (0 : Int32) h17 hl29
def f_X8_init (h : aH) (v0 : Nat) : Option (aH) := bd2 (nwO h 20 30) fun t1 h2 => (pR h2 8 v0 0 t1).bind fun h3 => bd2 (nwO h3 20 30) fun t4 h5 => (pR h5 8 v0 1 t4).bind fun h6 => bd2 (nwO h6 20 30) fun t7 h8 => (pR h8 8 v0 2 t7).bind fun h9 => bd2 (nwO h9 20 30) fun t10 h11 => (pR h11 8 v0 3 t10).bind fun h12 => bd2 (nwO h12 20 3) fun t13 h14 => (pR h14 8 v0 4 t13).bind fun h15 => (pI h15 8 v0 5 (0 : Int32)).bind fun h16 => (pI h16 8 v0 6 (0 : Int32)).bind fun h17 => (pZ h17 8 v0 7 (0 : Int32)).bind fun h18 => some h18
theorem s_X8_init {h : aH} {v0 : Nat} {out : aH} (hf0 : f_X8_init h v0 = some out) : EV 1 yX8_init cX8_init 1 none h [.ref v0] none out 5 123 := by
  refine EV.of (own := RX8) (lv0 := [(0, .ref v0)]) (by decide +kernel) rfl rfl (Nat.le_of_ble_eq_true rfl) ?_
  intro p l e s m args below meth c D cA B Hb C hin
  unfold f_X8_init at hf0
  refine r_aload_n C dX8_init_0 rfl ?_
  refine r_obj C lk_X8_3 dX8_init_1 ⟨Nat.le_of_ble_eq_true rfl, Nat.le_of_ble_eq_true rfl⟩ (Nat.le_of_ble_eq_true rfl) ?_
  refine r_aload_n C dX8_init_4 rfl ?_
  refine r_bipush (v := 30) C dX8_init_5 (by decide) ?_
  obtain ⟨t1, h2, e3, hf0⟩ := ob2 hf0
  refine r_newIE C dX8_init_7 (by decide) (by decide) (by decide) ⟨Nat.le_of_ble_eq_true rfl, Nat.le_of_ble_eq_true rfl⟩ e3 ?_
  obtain ⟨h4, e5, hf0⟩ := ob hf0
  refine r_putFR C fk_X8_9 ⟨_, _, rfl⟩ (Or.inr ⟨_, rfl⟩) hin dX8_init_9 e5 ?_
  refine r_aload_n C dX8_init_12 rfl ?_
  refine r_bipush (v := 30) C dX8_init_13 (by decide) ?_
  obtain ⟨t6, h7, e8, hf0⟩ := ob2 hf0
  refine r_newIE C dX8_init_15 (by decide) (by decide) (by decide) ⟨Nat.le_of_ble_eq_true rfl, Nat.le_of_ble_eq_true rfl⟩ e8 ?_
  obtain ⟨h9, e10, hf0⟩ := ob hf0
  refine r_putFR C fk_X8_15 ⟨_, _, rfl⟩ (Or.inr ⟨_, rfl⟩) hin dX8_init_17 e10 ?_
  refine r_aload_n C dX8_init_20 rfl ?_
  refine r_bipush (v := 30) C dX8_init_21 (by decide) ?_
  obtain ⟨t11, h12, e13, hf0⟩ := ob2 hf0
  refine r_newIE C dX8_init_23 (by decide) (by decide) (by decide) ⟨Nat.le_of_ble_eq_true rfl, Nat.le_of_ble_eq_true rfl⟩ e13 ?_
  obtain ⟨h14, e15, hf0⟩ := ob hf0
  refine r_putFR C fk_X8_18 ⟨_, _, rfl⟩ (Or.inr ⟨_, rfl⟩) hin dX8_init_25 e15 ?_
  refine r_aload_n C dX8_init_28 rfl ?_
  refine r_bipush (v := 30) C dX8_init_29 (by decide) ?_
  obtain ⟨t16, h17, e18, hf0⟩ := ob2 hf0
  refine r_newIE C dX8_init_31 (by decide) (by decide) (by decide) ⟨Nat.le_of_ble_eq_true rfl, Nat.le_of_ble_eq_true rfl⟩ e18 ?_
  obtain ⟨h19, e20, hf0⟩ := ob hf0
  refine r_putFR C fk_X8_21 ⟨_, _, rfl⟩ (Or.inr ⟨_, rfl⟩) hin dX8_init_33 e20 ?_
  refine r_aload_n C dX8_init_36 rfl ?_
  refine r_iconst (v := 3) C dX8_init_37 (by decide) ?_
  obtain ⟨t21, h22, e23, hf0⟩ := ob2 hf0
  refine r_newIE C dX8_init_38 (by decide) (by decide) (by decide) ⟨Nat.le_of_ble_eq_true rfl, Nat.le_of_ble_eq_true rfl⟩ e23 ?_
  obtain ⟨h24, e25, hf0⟩ := ob hf0
  refine r_putFR C fk_X8_24 ⟨_, _, rfl⟩ (Or.inr ⟨_, rfl⟩) hin dX8_init_40 e25 ?_
  refine r_aload_n C dX8_init_43 rfl ?_
  refine r_iconst (v := 0) C dX8_init_44 (by decide) ?_
  obtain ⟨h26, e27, hf0⟩ := ob hf0
  refine r_putI C fk_X8_27 dX8_init_45 e27 ?_
  refine r_aload_n C dX8_init_48 rfl ?_
  refine r_iconst (v := 0) C dX8_init_49 (by decide) ?_
  obtain ⟨h28, e29, hf0⟩ := ob hf0
  refine r_putI C fk_X8_31 dX8_init_50 e29 ?_
  refine r_aload_n C dX8_init_53 rfl ?_
  refine r_iconst (v := 0) C dX8_init_54 (by decide) ?_
  obtain ⟨h30, e31, hf0⟩ := ob hf0
  refine r_putZ C fk_X8_34 dX8_init_55 e31 ?_
  obtain rfl := so hf0
  exact r_vret C dX8_init_58
def f_X5_init (h : aH) (v0 : Nat) (v1 : Nat) : Option (aH) := bd2 (nwO h 8 8) fun t1 h2 => (f_X8_init h2 t1).bind fun h3 => (pR h3 5 v0 0 t1).bind fun h4 => bd2 (nwO h4 6 6) fun t5 h6 => (f_X6_init h6 t5).bind fun h7 => (pR h7 5 v0 1 t5).bind fun h8 => (pR h8 5 v0 2 v1).bind fun h9 => some h9
theorem s_X5_init {h : aH} {v0 : Nat} {v1 : Nat} {out : aH} (hf0 : f_X5_init h v0 v1 = some out) : EV 2 yX5_init cX5_init 2 none h [.ref v0, .ref v1] none out 11 185 := by
  refine EV.of (own := RX5) (lv0 := [(0, .ref v0), (1, .ref v1)]) (by decide +kernel) rfl rfl (Nat.le_of_ble_eq_true rfl) ?_
  intro p l e s m args below meth c D cA B Hb C hin
  unfold f_X5_init at hf0
  refine r_aload_n C dX5_init_0 rfl ?_
  refine r_obj C lk_X5_1 dX5_init_1 ⟨Nat.le_of_ble_eq_true rfl, Nat.le_of_ble_eq_true rfl⟩ (Nat.le_of_ble_eq_true rfl) ?_
  refine r_aload_n C dX5_init_4 rfl ?_
  obtain ⟨t1, h2, e3, hf0⟩ := ob2 hf0
  refine r_newE C nk_X5_7 dX5_init_5 ⟨Nat.le_of_ble_eq_true rfl, Nat.le_of_ble_eq_true rfl⟩ e3 ?_
  refine r_dup C dX5_init_8 rfl ?_
  obtain ⟨h4, e5, hf0⟩ := ob hf0
  refine r_callIN (rest := [.ref t1, .ref v0]) C (s_X8_init e5) mk_X8_init rfl im_X8_init ln_X5_9 rfl rfl dX5_init_9 (Nat.le_of_ble_eq_true rfl) ⟨Nat.le_of_ble_eq_true rfl, Nat.le_of_ble_eq_true rfl⟩ ⟨Nat.le_of_ble_eq_true rfl, Nat.le_of_ble_eq_true rfl⟩ ?_
  obtain ⟨h6, e7, hf0⟩ := ob hf0
  refine r_putFR C fk_X5_10 ⟨_, _, rfl⟩ (Or.inl ⟨_, rfl⟩) hin dX5_init_12 e7 ?_
  refine r_aload_n C dX5_init_15 rfl ?_
  obtain ⟨t8, h9, e10, hf0⟩ := ob2 hf0
  refine r_newE C nk_X5_16 dX5_init_16 ⟨Nat.le_of_ble_eq_true rfl, Nat.le_of_ble_eq_true rfl⟩ e10 ?_
  refine r_dup C dX5_init_19 rfl ?_
  obtain ⟨h11, e12, hf0⟩ := ob hf0
  refine r_callIN (rest := [.ref t8, .ref v0]) C (s_X6_init e12) mk_X6_init rfl im_X6_init ln_X5_18 rfl rfl dX5_init_20 (Nat.le_of_ble_eq_true rfl) ⟨Nat.le_of_ble_eq_true rfl, Nat.le_of_ble_eq_true rfl⟩ ⟨Nat.le_of_ble_eq_true rfl, Nat.le_of_ble_eq_true rfl⟩ ?_
  obtain ⟨h13, e14, hf0⟩ := ob hf0
  refine r_putFR C fk_X5_19 ⟨_, _, rfl⟩ (Or.inl ⟨_, rfl⟩) hin dX5_init_23 e14 ?_
  refine r_aload_n C dX5_init_26 rfl ?_
  refine r_aload_n C dX5_init_27 rfl ?_
  obtain ⟨h15, e16, hf0⟩ := ob hf0
  refine r_putR C fk_X5_23 (Or.inl ⟨_, rfl⟩) dX5_init_28 e16 ?_
  obtain rfl := so hf0
  exact r_vret C dX5_init_31
def f_X8_copyFrom (h : aH) (v0 : Nat) (v1 : Nat) : Option (aH) := (gR h 8 v1 0).bind fun t1 => (gR h 8 v0 0).bind fun t2 => (cpI h t1 (0 : Int32) t2 (0 : Int32) (30 : Int32)).bind fun h3 => (gR h3 8 v1 1).bind fun t4 => (gR h3 8 v0 1).bind fun t5 => (cpI h3 t4 (0 : Int32) t5 (0 : Int32) (30 : Int32)).bind fun h6 => (gR h6 8 v1 2).bind fun t7 => (gR h6 8 v0 2).bind fun t8 => (cpI h6 t7 (0 : Int32) t8 (0 : Int32) (30 : Int32)).bind fun h9 => (gR h9 8 v1 3).bind fun t10 => (gR h9 8 v0 3).bind fun t11 => (cpI h9 t10 (0 : Int32) t11 (0 : Int32) (30 : Int32)).bind fun h12 => (gI h12 8 v1 6).bind fun t13 => (pI h12 8 v0 6 t13).bind fun h14 => (gI h14 8 v1 7).bind fun t15 => (pZ h14 8 v0 7 t15).bind fun h16 => some h16
theorem s_X8_copyFrom {h : aH} {v0 : Nat} {v1 : Nat} {out : aH} (hf0 : f_X8_copyFrom h v0 v1 = some out) : EV 1 yX8_copyFrom cX8_copyFrom 2 none h [.ref v0, .ref v1] none out 0 0 := by
  refine EV.of (own := RX8) (lv0 := [(0, .ref v0), (1, .ref v1)]) (by decide +kernel) rfl rfl (Nat.le_of_ble_eq_true rfl) ?_
  intro p l e s m args below meth c D cA B Hb C hin
  unfold f_X8_copyFrom at hf0
  refine r_aload_n C dX8_copyFrom_0 rfl ?_
  obtain ⟨t1, e2, hf0⟩ := ob hf0
  refine r_getR C fk_X8_9 rfl dX8_copyFrom_1 e2 ?_
  refine r_iconst (v := 0) C dX8_copyFrom_4 (by decide) ?_
  refine r_aload_n C dX8_copyFrom_5 rfl ?_
  obtain ⟨t3, e4, hf0⟩ := ob hf0
  refine r_getR C fk_X8_9 rfl dX8_copyFrom_6 e4 ?_
  refine r_iconst (v := 0) C dX8_copyFrom_9 (by decide) ?_
  refine r_bipush (v := 30) C dX8_copyFrom_10 (by decide) ?_
  obtain ⟨h5, e6, hf0⟩ := ob hf0
  refine r_cpI C lk_X8_78 dX8_copyFrom_12 ⟨Nat.le_of_ble_eq_true rfl, Nat.le_of_ble_eq_true rfl⟩ (by decide) e6 ?_
  refine r_aload_n C dX8_copyFrom_15 rfl ?_
  obtain ⟨t7, e8, hf0⟩ := ob hf0
  refine r_getR C fk_X8_15 rfl dX8_copyFrom_16 e8 ?_
  refine r_iconst (v := 0) C dX8_copyFrom_19 (by decide) ?_
  refine r_aload_n C dX8_copyFrom_20 rfl ?_
  obtain ⟨t9, e10, hf0⟩ := ob hf0
  refine r_getR C fk_X8_15 rfl dX8_copyFrom_21 e10 ?_
  refine r_iconst (v := 0) C dX8_copyFrom_24 (by decide) ?_
  refine r_bipush (v := 30) C dX8_copyFrom_25 (by decide) ?_
  obtain ⟨h11, e12, hf0⟩ := ob hf0
  refine r_cpI C lk_X8_78 dX8_copyFrom_27 ⟨Nat.le_of_ble_eq_true rfl, Nat.le_of_ble_eq_true rfl⟩ (by decide) e12 ?_
  refine r_aload_n C dX8_copyFrom_30 rfl ?_
  obtain ⟨t13, e14, hf0⟩ := ob hf0
  refine r_getR C fk_X8_18 rfl dX8_copyFrom_31 e14 ?_
  refine r_iconst (v := 0) C dX8_copyFrom_34 (by decide) ?_
  refine r_aload_n C dX8_copyFrom_35 rfl ?_
  obtain ⟨t15, e16, hf0⟩ := ob hf0
  refine r_getR C fk_X8_18 rfl dX8_copyFrom_36 e16 ?_
  refine r_iconst (v := 0) C dX8_copyFrom_39 (by decide) ?_
  refine r_bipush (v := 30) C dX8_copyFrom_40 (by decide) ?_
  obtain ⟨h17, e18, hf0⟩ := ob hf0
  refine r_cpI C lk_X8_78 dX8_copyFrom_42 ⟨Nat.le_of_ble_eq_true rfl, Nat.le_of_ble_eq_true rfl⟩ (by decide) e18 ?_
  refine r_aload_n C dX8_copyFrom_45 rfl ?_
  obtain ⟨t19, e20, hf0⟩ := ob hf0
  refine r_getR C fk_X8_21 rfl dX8_copyFrom_46 e20 ?_
  refine r_iconst (v := 0) C dX8_copyFrom_49 (by decide) ?_
  refine r_aload_n C dX8_copyFrom_50 rfl ?_
  obtain ⟨t21, e22, hf0⟩ := ob hf0
  refine r_getR C fk_X8_21 rfl dX8_copyFrom_51 e22 ?_
  refine r_iconst (v := 0) C dX8_copyFrom_54 (by decide) ?_
  refine r_bipush (v := 30) C dX8_copyFrom_55 (by decide) ?_
  obtain ⟨h23, e24, hf0⟩ := ob hf0
  refine r_cpI C lk_X8_78 dX8_copyFrom_57 ⟨Nat.le_of_ble_eq_true rfl, Nat.le_of_ble_eq_true rfl⟩ (by decide) e24 ?_
  refine r_aload_n C dX8_copyFrom_60 rfl ?_
  refine r_aload_n C dX8_copyFrom_61 rfl ?_
  obtain ⟨t25, e26, hf0⟩ := ob hf0
  refine r_getI C fk_X8_31 rfl dX8_copyFrom_62 e26 ?_
  obtain ⟨h27, e28, hf0⟩ := ob hf0
  refine r_putI C fk_X8_31 dX8_copyFrom_65 e28 ?_
  refine r_aload_n C dX8_copyFrom_68 rfl ?_
  refine r_aload_n C dX8_copyFrom_69 rfl ?_
  obtain ⟨t29, e30, hf0⟩ := ob hf0
  refine r_getI C fk_X8_34 rfl dX8_copyFrom_70 e30 ?_
  obtain ⟨h31, e32, hf0⟩ := ob hf0
  refine r_putZ C fk_X8_34 dX8_copyFrom_73 e32 ?_
  obtain rfl := so hf0
  exact r_vret C dX8_copyFrom_76
def f_X5_keep (h : aH) (v0 : Nat) (v1 : Nat) (v2 : Nat) (v3 : Nat) : Option (aH) := (pR h 5 v0 2 v1).bind fun h1 => (gR h1 5 v0 0).bind fun t2 => (ck h1 8 t2).bind fun _ => (f_X8_copyFrom h1 t2 v2).bind fun h3 => (gR h3 5 v0 1).bind fun t4 => (ck h3 6 t4).bind fun _ => (f_X6_copyFrom h3 t4 v3).bind fun h5 => some h5
theorem s_X5_keep {h : aH} {v0 : Nat} {v1 : Nat} {v2 : Nat} {v3 : Nat} {out : aH} (hf0 : f_X5_keep h v0 v1 v2 v3 = some out) : EV 2 yX5_keep cX5_keep 4 none h [.ref v0, .ref v1, .ref v2, .ref v3] none out 0 0 := by
  refine EV.of (own := RX5) (lv0 := [(0, .ref v0), (1, .ref v1), (2, .ref v2), (3, .ref v3)]) (by decide +kernel) rfl rfl (Nat.le_of_ble_eq_true rfl) ?_
  intro p l e s m args below meth c D cA B Hb C hin
  unfold f_X5_keep at hf0
  refine r_aload_n C dX5_keep_0 rfl ?_
  refine r_aload_n C dX5_keep_1 rfl ?_
  obtain ⟨h1, e2, hf0⟩ := ob hf0
  refine r_putR C fk_X5_23 (Or.inl ⟨_, rfl⟩) dX5_keep_2 e2 ?_
  refine r_aload_n C dX5_keep_5 rfl ?_
  obtain ⟨t3, e4, hf0⟩ := ob hf0
  refine r_getR C fk_X5_10 rfl dX5_keep_6 e4 ?_
  refine r_aload_n C dX5_keep_9 rfl ?_
  obtain ⟨u6, e5, hf0⟩ := ob hf0
  obtain ⟨h7, e8, hf0⟩ := ob hf0
  refine r_cV (ci := 8) (rest := []) (st2 := []) C (s_X8_copyFrom e8) mk_X8_copyFrom rfl (ck_k e5) (by decide) im_X8_copyFrom sl_X8_copyFrom lk_X5_27 rfl rfl rfl dX5_keep_10 (Nat.le_of_ble_eq_true rfl) ⟨Nat.le_of_ble_eq_true rfl, Nat.le_of_ble_eq_true rfl⟩ ⟨Nat.le_of_ble_eq_true rfl, Nat.le_of_ble_eq_true rfl⟩ ?_
  refine r_aload_n C dX5_keep_13 rfl ?_
  obtain ⟨t9, e10, hf0⟩ := ob hf0
  refine r_getR C fk_X5_19 rfl dX5_keep_14 e10 ?_
  refine r_aload_n C dX5_keep_17 rfl ?_
  obtain ⟨u12, e11, hf0⟩ := ob hf0
  obtain ⟨h13, e14, hf0⟩ := ob hf0
  refine r_cV (ci := 6) (rest := []) (st2 := []) C (s_X6_copyFrom e14) mk_X6_copyFrom rfl (ck_k e11) (by decide) im_X6_copyFrom sl_X6_copyFrom lk_X5_31 rfl rfl rfl dX5_keep_18 (Nat.le_of_ble_eq_true rfl) ⟨Nat.le_of_ble_eq_true rfl, Nat.le_of_ble_eq_true rfl⟩ ⟨Nat.le_of_ble_eq_true rfl, Nat.le_of_ble_eq_true rfl⟩ ?_
  obtain rfl := so hf0
  exact r_vret C dX5_keep_21
def f_X6_putToday_j28 (h : aH) (v0 : Nat) (v1 : Int32) (v2 : Int32) : Option ((Int32 × Int32) ⊕ (Int32)) := (some (v2 + (1 : Int32))).bind fun t1 => some (.inl (v1, t1))
def f_X6_putToday_b4 (h : aH) (v0 : Nat) (v1 : Int32) (v2 : Int32) : Option ((Int32 × Int32) ⊕ (Int32)) := (gI h 6 v0 4).bind fun t2 => if t2 ≤ v2 then some (.inr v1) else (gR h 6 v0 3).bind fun t3 => (lI h t3 v2).bind fun t4 => (gI h 6 v0 5).bind fun t5 => if t4 = t5 then (some (v1 + (1 : Int32))).bind fun t6 => f_X6_putToday_j28 h v0 t6 v2 else f_X6_putToday_j28 h v0 v1 v2
def f_X6_putToday_l4 (h : aH) (v0 : Nat) (v1 : Int32) (v2 : Int32) : Option (Int32) := whileL wN (fun q : Int32 × Int32 => f_X6_putToday_b4 h v0 q.1 q.2) (v1, v2)
def f_X6_putToday (h : aH) (v0 : Nat) : Option (Int32) := (f_X6_putToday_l4 h v0 (0 : Int32) (0 : Int32)).bind fun t7 => some t7
theorem s_X6_putToday {h : aH} {v0 : Nat} {out : Int32} (hf0 : f_X6_putToday h v0 = some out) : EV 0 yX6_putToday cX6_putToday 3 (some .int) h [.ref v0] (some (.int out)) h 0 0 := by
  refine EV.of (own := RX6) (lv0 := [(0, .ref v0)]) (by decide +kernel) rfl rfl (Nat.le_of_ble_eq_true rfl) ?_
  intro p l e s m args below meth c D cA B Hb C hin
  unfold f_X6_putToday at hf0
  refine r_iconst (v := 0) C dX6_putToday_0 (by decide) ?_
  refine r_istore_n (lv' := [(1, .int (0 : Int32)), (0, .ref v0)]) C dX6_putToday_1 (by decide) rfl rfl ?_
  refine r_iconst (v := 0) C dX6_putToday_2 (by decide) ?_
  refine r_istore_n (lv' := [(2, .int (0 : Int32)), (1, .int (0 : Int32)), (0, .ref v0)]) C dX6_putToday_3 (by decide) rfl rfl ?_
  obtain ⟨y1, hl4, hf0⟩ := ob hf0
  have L4 : ∀ (n : Nat) (t2 : Int32) (t3 : Int32), whileL n (fun q : Int32 × Int32 => f_X6_putToday_b4 h v0 q.1 q.2) (t2, t3) = some y1 → gW p l e (rmO 0 0 0) s m args below meth c (MQ below (eQ D cA B Hb h (some (.int out))) args s 0 0 (fun q => B ≤ q)) D cA B Hb 3 h 4 [(0, .ref v0), (1, .int t2), (2, .int t3)] [] 0 0 := by
    intro n
    induction n with
    | zero => intro t2 t3 hz; cases hz
    | succ n ih4 =>
      intro t2 t3 hz
      obtain ⟨x4, hf1, hk4⟩ := wl hz
      replace hf1 : f_X6_putToday_b4 h v0 t2 t3 = some x4 := hf1
      unfold f_X6_putToday_b4 at hf1
      have J28 : ∀ (t4 : Int32) (t5 : Int32), f_X6_putToday_j28 h v0 t4 t5 = some x4 → gW p l e (rmO 0 0 0) s m args below meth c (MQ below (eQ D cA B Hb h (some (.int out))) args s 0 0 (fun q => B ≤ q)) D cA B Hb 3 h 28 [(0, .ref v0), (1, .int t4), (2, .int t5)] [] 0 0 := by
        intro t4 t5 hf1
        unfold f_X6_putToday_j28 at hf1
        obtain ⟨t6, e7, hf1⟩ := ob hf1
        refine r_iinc (lv' := [(2, .int t6), (0, .ref v0), (1, .int t4)]) C dX6_putToday_28 rfl e7 (by decide) rfl ?_
        refine r_goto (tgt := 4) C dX6_putToday_31 (by decide) ?_
        obtain rfl := so hf1
        refine r_subk [1, 2, 0] (lv' := [(0, .ref v0), (1, .int t4), (2, .int t6)]) rfl ?_
        exact ih4 t4 t6 hk4
      refine r_iload_n C dX6_putToday_4 rfl ?_
      refine r_aload_n C dX6_putToday_5 rfl ?_
      obtain ⟨t8, e9, hf1⟩ := ob hf1
      refine r_getI C fk_X6_24 rfl dX6_putToday_6 e9 ?_
      refine r_icmp_ge (tgt := 34) C dX6_putToday_9 (by decide) (fun c10 => ?_) (fun c10 => ?_)
      · rw [if_pos c10] at hf1
        obtain rfl := so hf1
        obtain rfl := so (show some t2 = some y1 from hk4)
        refine r_iload_n C dX6_putToday_34 rfl ?_
        obtain rfl := so hf0
        exact r_iret C dX6_putToday_35
      · rw [if_neg c10] at hf1
        refine r_aload_n C dX6_putToday_12 rfl ?_
        obtain ⟨t11, e12, hf1⟩ := ob hf1
        refine r_getR C fk_X6_21 rfl dX6_putToday_13 e12 ?_
        refine r_iload_n C dX6_putToday_16 rfl ?_
        obtain ⟨t13, e14, hf1⟩ := ob hf1
        refine r_ldI C dX6_putToday_17 e14 ?_
        refine r_aload_n C dX6_putToday_18 rfl ?_
        obtain ⟨t15, e16, hf1⟩ := ob hf1
        refine r_getI C fk_X6_28 rfl dX6_putToday_19 e16 ?_
        refine r_icmp_ne (tgt := 28) C dX6_putToday_22 (by decide) (fun c17 => ?_) (fun c17 => ?_)
        · rw [if_neg c17] at hf1
          exact J28 t2 t3 hf1
        · rw [if_pos c17] at hf1
          obtain ⟨t18, e19, hf1⟩ := ob hf1
          refine r_iinc (lv' := [(1, .int t18), (0, .ref v0), (2, .int t3)]) C dX6_putToday_25 rfl e19 (by decide) rfl ?_
          refine r_subk [1, 0, 2] (lv' := [(0, .ref v0), (1, .int t18), (2, .int t3)]) rfl ?_
          exact J28 t18 t3 hf1
  refine r_subk [2, 1, 0] (lv' := [(0, .ref v0), (1, .int (0 : Int32)), (2, .int (0 : Int32))]) rfl ?_
  exact L4 wN (0 : Int32) (0 : Int32) hl4
def f_X8_readEnd (h : aH) (v0 : Nat) (v1 : Nat) : Option (Int32 × aH) := (gI h 8 v0 5).bind fun t1 => if t1 = 0 then (ck h 4 v1).bind fun _ => bd2 (f_X4_refuseHere h v1 (2 : Int32)) fun t14 h15 => (rZ t14).bind fun t16 => some (t16, h15) else (gI h 8 v0 5).bind fun t2 => (pI h 8 v0 5 (t2 - (1 : Int32))).bind fun h3 => (gR h3 8 v0 3).bind fun t4 => (gR h3 8 v0 4).bind fun t5 => (gI h3 8 v0 5).bind fun t6 => (lI h3 t5 t6).bind fun t7 => (gI h3 8 v0 6).bind fun t8 => (sI h3 t4 t7 t8).bind fun h9 => (ck h9 4 v1).bind fun _ => (f_X4_advance h9 v1).bind fun h10 => (ck h10 4 v1).bind fun _ => bd2 (f_X4_take h10 v1 (3 : Int32)) fun t11 h12 => (rZ t11).bind fun t13 => some (t13, h12)
theorem s_X8_readEnd {h : aH} {v0 : Nat} {v1 : Nat} {out : Int32 × aH} (hf0 : f_X8_readEnd h v0 v1 = some out) : EV 2 yX8_readEnd cX8_readEnd 2 (some .boolean) h [.ref v0, .ref v1] (some (.int out.1)) out.2 0 0 := by
  refine EV.of (own := RX8) (lv0 := [(0, .ref v0), (1, .ref v1)]) (by decide +kernel) rfl rfl (Nat.le_of_ble_eq_true rfl) ?_
  intro p l e s m args below meth c D cA B Hb C hin
  unfold f_X8_readEnd at hf0
  refine r_aload_n C dX8_readEnd_0 rfl ?_
  obtain ⟨t1, e2, hf0⟩ := ob hf0
  refine r_getI C fk_X8_27 rfl dX8_readEnd_1 e2 ?_
  refine r_ifne (tgt := 13) C dX8_readEnd_4 (by decide) (fun c3 => ?_) (fun c3 => ?_)
  · rw [if_neg c3] at hf0
    refine r_aload_n C dX8_readEnd_13 rfl ?_
    refine r_dup C dX8_readEnd_14 rfl ?_
    obtain ⟨t4, e5, hf0⟩ := ob hf0
    refine r_getI C fk_X8_27 rfl dX8_readEnd_15 e5 ?_
    refine r_iconst (v := 1) C dX8_readEnd_18 (by decide) ?_
    refine r_isub C dX8_readEnd_19 ?_
    obtain ⟨h6, e7, hf0⟩ := ob hf0
    refine r_putI C fk_X8_27 dX8_readEnd_20 e7 ?_
    refine r_aload_n C dX8_readEnd_23 rfl ?_
    obtain ⟨t8, e9, hf0⟩ := ob hf0
    refine r_getR C fk_X8_21 rfl dX8_readEnd_24 e9 ?_
    refine r_aload_n C dX8_readEnd_27 rfl ?_
    obtain ⟨t10, e11, hf0⟩ := ob hf0
    refine r_getR C fk_X8_24 rfl dX8_readEnd_28 e11 ?_
    refine r_aload_n C dX8_readEnd_31 rfl ?_
    obtain ⟨t12, e13, hf0⟩ := ob hf0
    refine r_getI C fk_X8_27 rfl dX8_readEnd_32 e13 ?_
    obtain ⟨t14, e15, hf0⟩ := ob hf0
    refine r_ldI C dX8_readEnd_35 e15 ?_
    refine r_aload_n C dX8_readEnd_36 rfl ?_
    obtain ⟨t16, e17, hf0⟩ := ob hf0
    refine r_getI C fk_X8_31 rfl dX8_readEnd_37 e17 ?_
    obtain ⟨h18, e19, hf0⟩ := ob hf0
    refine r_stI C dX8_readEnd_40 e19 ?_
    refine r_aload_n C dX8_readEnd_41 rfl ?_
    obtain ⟨u21, e20, hf0⟩ := ob hf0
    obtain ⟨h22, e23, hf0⟩ := ob hf0
    refine r_cV (ci := 4) (rest := []) (st2 := []) C (s_X4_advance e23) mk_X4_advance rfl (ck_k e20) (by decide) im_X4_advance sl_X4_advance lk_X8_55 rfl rfl rfl dX8_readEnd_42 (Nat.le_of_ble_eq_true rfl) ⟨Nat.le_of_ble_eq_true rfl, Nat.le_of_ble_eq_true rfl⟩ ⟨Nat.le_of_ble_eq_true rfl, Nat.le_of_ble_eq_true rfl⟩ ?_
    refine r_aload_n C dX8_readEnd_45 rfl ?_
    refine r_iconst (v := 3) C dX8_readEnd_46 (by decide) ?_
    obtain ⟨u25, e24, hf0⟩ := ob hf0
    obtain ⟨t26, h27, e28, hf0⟩ := ob2 hf0
    refine r_cV (ci := 4) (rest := []) (st2 := [.int t26]) C (s_X4_take e28) mk_X4_take rfl (ck_k e24) (by decide) im_X4_take sl_X4_take lk_X8_58 rfl rfl rfl dX8_readEnd_47 (Nat.le_of_ble_eq_true rfl) ⟨Nat.le_of_ble_eq_true rfl, Nat.le_of_ble_eq_true rfl⟩ ⟨Nat.le_of_ble_eq_true rfl, Nat.le_of_ble_eq_true rfl⟩ ?_
    obtain ⟨t29, e30, hf0⟩ := ob hf0
    obtain ⟨rfl, e30z⟩ := rZ_k e30
    obtain rfl := so hf0
    exact r_zret C dX8_readEnd_50 e30z
  · rw [if_pos c3] at hf0
    refine r_aload_n C dX8_readEnd_7 rfl ?_
    refine r_iconst (v := 2) C dX8_readEnd_8 (by decide) ?_
    obtain ⟨u32, e31, hf0⟩ := ob hf0
    obtain ⟨t33, h34, e35, hf0⟩ := ob2 hf0
    refine r_cV (ci := 4) (rest := []) (st2 := [.int t33]) C (s_X4_refuseHere e35) mk_X4_refuseHere rfl (ck_k e31) (by decide) im_X4_refuseHere sl_X4_refuseHere lk_X8_51 rfl rfl rfl dX8_readEnd_9 (Nat.le_of_ble_eq_true rfl) ⟨Nat.le_of_ble_eq_true rfl, Nat.le_of_ble_eq_true rfl⟩ ⟨Nat.le_of_ble_eq_true rfl, Nat.le_of_ble_eq_true rfl⟩ ?_
    obtain ⟨t36, e37, hf0⟩ := ob hf0
    obtain ⟨rfl, e37z⟩ := rZ_k e37
    obtain rfl := so hf0
    exact r_zret C dX8_readEnd_12 e37z
def f_X8_readTest_j91 (h : aH) (v1 : Nat) (s0 : Nat) (s1 : Int32) (s2 : Int32) : Option (Int32 × aH) := (sI h s0 s1 s2).bind fun h1 => (gI h1 4 v1 12).bind fun t2 => if t2 = 0 then some ((1 : Int32), h1) else some ((0 : Int32), h1)
def f_X8_readTest_j17 (h : aH) (v1 : Nat) : Option (Int32 × aH) := (ck h 4 v1).bind fun _ => bd2 (f_X4_refuseHere h v1 (2 : Int32)) fun t3 h4 => (rZ t3).bind fun t5 => some (t5, h4)
def f_X8_readTest (h : aH) (v0 : Nat) (v1 : Nat) (v2 : Nat) : Option (Int32 × aH) := (gI h 4 v1 10).bind fun t6 => if t6 < (30 : Int32) then f_X8_readTest_j17 h v1 else if t6 ≤ (33 : Int32) then (gR h 8 v0 0).bind fun t7 => (gI h 8 v0 6).bind fun t8 => (sI h t7 t8 t6).bind fun h9 => (gR h9 8 v0 4).bind fun t10 => (gI h9 8 v0 5).bind fun t11 => (gI h9 8 v0 6).bind fun t12 => (sI h9 t10 t11 t12).bind fun h13 => (gI h13 8 v0 5).bind fun t14 => (pI h13 8 v0 5 (t14 + (1 : Int32))).bind fun h15 => (ck h15 4 v1).bind fun _ => (f_X4_advance h15 v1).bind fun h16 => (gR h16 8 v0 1).bind fun t17 => (gI h16 8 v0 6).bind fun t18 => if t6 = (33 : Int32) then (ck h16 4 v1).bind fun _ => bd2 (f_X4_takeNumber h16 v1 (0 : Int32) (256 : Int32)) fun t21 h22 => f_X8_readTest_j91 h22 v1 t17 t18 t21 else (ck h16 4 v1).bind fun _ => bd2 (f_X4_takeName h16 v1 v2 (2 : Int32)) fun t19 h20 => f_X8_readTest_j91 h20 v1 t17 t18 t19 else f_X8_readTest_j17 h v1
theorem s_X8_readTest {h : aH} {v0 : Nat} {v1 : Nat} {v2 : Nat} {out : Int32 × aH} (hf0 : f_X8_readTest h v0 v1 v2 = some out) : EV 3 yX8_readTest cX8_readTest 4 (some .boolean) h [.ref v0, .ref v1, .ref v2] (some (.int out.1)) out.2 0 0 := by
  refine EV.of (own := RX8) (lv0 := [(0, .ref v0), (1, .ref v1), (2, .ref v2)]) (by decide +kernel) rfl rfl (Nat.le_of_ble_eq_true rfl) ?_
  intro p l e s m args below meth c D cA B Hb C hin
  unfold f_X8_readTest at hf0
  have J91 : ∀ (h1 : aH) (t2 : Nat) (t3 : Nat) (t4 : Int32) (t5 : Int32), f_X8_readTest_j91 h1 t2 t3 t4 t5 = some out → gW p l e (rmO 3 0 0) s m args below meth c (MQ below (eQ D cA B Hb out.2 (some (.int out.1))) args s 0 0 (fun q => B ≤ q)) D cA B Hb 4 h1 91 [(1, .ref t2)] [.int t5, .int t4, .ref t3] 0 0 := by
    intro h1 t2 t3 t4 t5 hf0
    unfold f_X8_readTest_j91 at hf0
    obtain ⟨h6, e7, hf0⟩ := ob hf0
    refine r_stI C dX8_readTest_91 e7 ?_
    refine r_aload_n C dX8_readTest_92 rfl ?_
    obtain ⟨t8, e9, hf0⟩ := ob hf0
    refine r_getI C fk_X8_71 rfl dX8_readTest_93 e9 ?_
    refine r_ifne (tgt := 103) C dX8_readTest_96 (by decide) (fun c10 => ?_) (fun c10 => ?_)
    · rw [if_neg c10] at hf0
      refine r_iconst (v := 0) C dX8_readTest_103 (by decide) ?_
      obtain rfl := so hf0
      exact r_zret C dX8_readTest_104 (Or.inl rfl)
    · rw [if_pos c10] at hf0
      refine r_iconst (v := 1) C dX8_readTest_99 (by decide) ?_
      refine r_goto (tgt := 104) C dX8_readTest_100 (by decide) ?_
      obtain rfl := so hf0
      exact r_zret C dX8_readTest_104 (Or.inr rfl)
  have J17 : ∀ (h11 : aH) (t12 : Nat), f_X8_readTest_j17 h11 t12 = some out → gW p l e (rmO 3 0 0) s m args below meth c (MQ below (eQ D cA B Hb out.2 (some (.int out.1))) args s 0 0 (fun q => B ≤ q)) D cA B Hb 4 h11 17 [(1, .ref t12)] [] 0 0 := by
    intro h11 t12 hf0
    unfold f_X8_readTest_j17 at hf0
    refine r_aload_n C dX8_readTest_17 rfl ?_
    refine r_iconst (v := 2) C dX8_readTest_18 (by decide) ?_
    obtain ⟨u14, e13, hf0⟩ := ob hf0
    obtain ⟨t15, h16, e17, hf0⟩ := ob2 hf0
    refine r_cV (ci := 4) (rest := []) (st2 := [.int t15]) C (s_X4_refuseHere e17) mk_X4_refuseHere rfl (ck_k e13) (by decide) im_X4_refuseHere sl_X4_refuseHere lk_X8_51 rfl rfl rfl dX8_readTest_19 (Nat.le_of_ble_eq_true rfl) ⟨Nat.le_of_ble_eq_true rfl, Nat.le_of_ble_eq_true rfl⟩ ⟨Nat.le_of_ble_eq_true rfl, Nat.le_of_ble_eq_true rfl⟩ ?_
    obtain ⟨t18, e19, hf0⟩ := ob hf0
    obtain ⟨rfl, e19z⟩ := rZ_k e19
    obtain rfl := so hf0
    exact r_zret C dX8_readTest_22 e19z
  refine r_aload_n C dX8_readTest_0 rfl ?_
  obtain ⟨t20, e21, hf0⟩ := ob hf0
  refine r_getI C fk_X8_38 rfl dX8_readTest_1 e21 ?_
  refine r_istore_n (lv' := [(3, .int t20), (0, .ref v0), (1, .ref v1), (2, .ref v2)]) C dX8_readTest_4 (by decide) rfl rfl ?_
  refine r_iload_n C dX8_readTest_5 rfl ?_
  refine r_bipush (v := 30) C dX8_readTest_6 (by decide) ?_
  refine r_icmp_lt (tgt := 17) C dX8_readTest_8 (by decide) (fun c22 => ?_) (fun c22 => ?_)
  · rw [if_pos c22] at hf0
    refine r_subk [2] (lv' := [(1, .ref v1)]) rfl ?_
    exact J17 h v1 hf0
  · rw [if_neg c22] at hf0
    refine r_iload_n C dX8_readTest_11 rfl ?_
    refine r_bipush (v := 33) C dX8_readTest_12 (by decide) ?_
    refine r_icmp_le (tgt := 23) C dX8_readTest_14 (by decide) (fun c23 => ?_) (fun c23 => ?_)
    · rw [if_pos c23] at hf0
      refine r_aload_n C dX8_readTest_23 rfl ?_
      obtain ⟨t24, e25, hf0⟩ := ob hf0
      refine r_getR C fk_X8_9 rfl dX8_readTest_24 e25 ?_
      refine r_aload_n C dX8_readTest_27 rfl ?_
      obtain ⟨t26, e27, hf0⟩ := ob hf0
      refine r_getI C fk_X8_31 rfl dX8_readTest_28 e27 ?_
      refine r_iload_n C dX8_readTest_31 rfl ?_
      obtain ⟨h28, e29, hf0⟩ := ob hf0
      refine r_stI C dX8_readTest_32 e29 ?_
      refine r_aload_n C dX8_readTest_33 rfl ?_
      obtain ⟨t30, e31, hf0⟩ := ob hf0
      refine r_getR C fk_X8_24 rfl dX8_readTest_34 e31 ?_
      refine r_aload_n C dX8_readTest_37 rfl ?_
      obtain ⟨t32, e33, hf0⟩ := ob hf0
      refine r_getI C fk_X8_27 rfl dX8_readTest_38 e33 ?_
      refine r_aload_n C dX8_readTest_41 rfl ?_
      obtain ⟨t34, e35, hf0⟩ := ob hf0
      refine r_getI C fk_X8_31 rfl dX8_readTest_42 e35 ?_
      obtain ⟨h36, e37, hf0⟩ := ob hf0
      refine r_stI C dX8_readTest_45 e37 ?_
      refine r_aload_n C dX8_readTest_46 rfl ?_
      refine r_dup C dX8_readTest_47 rfl ?_
      obtain ⟨t38, e39, hf0⟩ := ob hf0
      refine r_getI C fk_X8_27 rfl dX8_readTest_48 e39 ?_
      refine r_iconst (v := 1) C dX8_readTest_51 (by decide) ?_
      refine r_iadd C dX8_readTest_52 ?_
      obtain ⟨h40, e41, hf0⟩ := ob hf0
      refine r_putI C fk_X8_27 dX8_readTest_53 e41 ?_
      refine r_aload_n C dX8_readTest_56 rfl ?_
      obtain ⟨u43, e42, hf0⟩ := ob hf0
      obtain ⟨h44, e45, hf0⟩ := ob hf0
      refine r_cV (ci := 4) (rest := []) (st2 := []) C (s_X4_advance e45) mk_X4_advance rfl (ck_k e42) (by decide) im_X4_advance sl_X4_advance lk_X8_55 rfl rfl rfl dX8_readTest_57 (Nat.le_of_ble_eq_true rfl) ⟨Nat.le_of_ble_eq_true rfl, Nat.le_of_ble_eq_true rfl⟩ ⟨Nat.le_of_ble_eq_true rfl, Nat.le_of_ble_eq_true rfl⟩ ?_
      refine r_aload_n C dX8_readTest_60 rfl ?_
      obtain ⟨t46, e47, hf0⟩ := ob hf0
      refine r_getR C fk_X8_15 rfl dX8_readTest_61 e47 ?_
      refine r_aload_n C dX8_readTest_64 rfl ?_
      obtain ⟨t48, e49, hf0⟩ := ob hf0
      refine r_getI C fk_X8_31 rfl dX8_readTest_65 e49 ?_
      refine r_iload_n C dX8_readTest_68 rfl ?_
      refine r_bipush (v := 33) C dX8_readTest_69 (by decide) ?_
      refine r_icmp_ne (tgt := 85) C dX8_readTest_71 (by decide) (fun c50 => ?_) (fun c50 => ?_)
      · rw [if_neg c50] at hf0
        refine r_aload_n C dX8_readTest_85 rfl ?_
        refine r_aload_n C dX8_readTest_86 rfl ?_
        refine r_iconst (v := 2) C dX8_readTest_87 (by decide) ?_
        obtain ⟨u52, e51, hf0⟩ := ob hf0
        obtain ⟨t53, h54, e55, hf0⟩ := ob2 hf0
        refine r_cV (ci := 4) (rest := [.int t48, .ref t46]) (st2 := [.int t53, .int t48, .ref t46]) C (s_X4_takeName e55) mk_X4_takeName rfl (ck_k e51) (by decide) im_X4_takeName sl_X4_takeName lk_X8_67 rfl rfl rfl dX8_readTest_88 (Nat.le_of_ble_eq_true rfl) ⟨Nat.le_of_ble_eq_true rfl, Nat.le_of_ble_eq_true rfl⟩ ⟨Nat.le_of_ble_eq_true rfl, Nat.le_of_ble_eq_true rfl⟩ ?_
        refine r_subk [2] (lv' := [(1, .ref v1)]) rfl ?_
        exact J91 h54 v1 t46 t48 t53 hf0
      · rw [if_pos c50] at hf0
        refine r_aload_n C dX8_readTest_74 rfl ?_
        refine r_iconst (v := 0) C dX8_readTest_75 (by decide) ?_
        refine r_sipush (v := 256) C dX8_readTest_76 (by decide) ?_
        obtain ⟨u57, e56, hf0⟩ := ob hf0
        obtain ⟨t58, h59, e60, hf0⟩ := ob2 hf0
        refine r_cV (ci := 4) (rest := [.int t48, .ref t46]) (st2 := [.int t58, .int t48, .ref t46]) C (s_X4_takeNumber e60) mk_X4_takeNumber rfl (ck_k e56) (by decide) im_X4_takeNumber sl_X4_takeNumber lk_X8_74 rfl rfl rfl dX8_readTest_79 (Nat.le_of_ble_eq_true rfl) ⟨Nat.le_of_ble_eq_true rfl, Nat.le_of_ble_eq_true rfl⟩ ⟨Nat.le_of_ble_eq_true rfl, Nat.le_of_ble_eq_true rfl⟩ ?_
        refine r_goto (tgt := 91) C dX8_readTest_82 (by decide) ?_
        refine r_subk [2] (lv' := [(1, .ref v1)]) rfl ?_
        exact J91 h59 v1 t46 t48 t58 hf0
    · rw [if_neg c23] at hf0
      refine r_subk [2] (lv' := [(1, .ref v1)]) rfl ?_
      exact J17 h v1 hf0
def f_X8_readNames_j89 (h : aH) (v1 : Nat) : Option (Int32 × aH) := (gI h 4 v1 12).bind fun t1 => if t1 = 0 then some ((1 : Int32), h) else some ((0 : Int32), h)
def f_X8_readNames_j61 (h : aH) (v0 : Nat) (v1 : Nat) (v2 : Nat) (v3 : Int32) : Option (Int32 × aH) := if v3 = (25 : Int32) then (gI h 4 v1 12).bind fun t2 => if t2 = 0 then (gR h 8 v0 2).bind fun t3 => (gI h 8 v0 6).bind fun t4 => (ck h 4 v1).bind fun _ => bd2 (f_X4_takeName h v1 v2 (2 : Int32)) fun t5 h6 => (sI h6 t3 t4 t5).bind fun h7 => f_X8_readNames_j89 h7 v1 else f_X8_readNames_j89 h v1 else f_X8_readNames_j89 h v1
def f_X8_readNames_j22 (h : aH) (v0 : Nat) (v1 : Nat) (v2 : Nat) (v3 : Int32) : Option (Int32 × aH) := (gR h 8 v0 1).bind fun t8 => (gI h 8 v0 6).bind fun t9 => (ck h 4 v1).bind fun _ => bd2 (f_X4_takeName h v1 v2 (3 : Int32)) fun t10 h11 => (sI h11 t8 t9 t10).bind fun h12 => f_X8_readNames_j61 h12 v0 v1 v2 v3
def f_X8_readNames (h : aH) (v0 : Nat) (v1 : Nat) (v2 : Nat) : Option (Int32 × aH) := (gR h 8 v0 0).bind fun t13 => (gI h 8 v0 6).bind fun t14 => (lI h t13 t14).bind fun t15 => if t15 = (25 : Int32) then f_X8_readNames_j22 h v0 v1 v2 t15 else if t15 = (26 : Int32) then f_X8_readNames_j22 h v0 v1 v2 t15 else if t15 = (28 : Int32) then (gR h 8 v0 1).bind fun t16 => (gI h 8 v0 6).bind fun t17 => (ck h 4 v1).bind fun _ => bd2 (f_X4_takeName h v1 v2 (2 : Int32)) fun t18 h19 => (sI h19 t16 t17 t18).bind fun h20 => f_X8_readNames_j61 h20 v0 v1 v2 t15 else f_X8_readNames_j61 h v0 v1 v2 t15
theorem s_X8_readNames {h : aH} {v0 : Nat} {v1 : Nat} {v2 : Nat} {out : Int32 × aH} (hf0 : f_X8_readNames h v0 v1 v2 = some out) : EV 3 yX8_readNames cX8_readNames 4 (some .boolean) h [.ref v0, .ref v1, .ref v2] (some (.int out.1)) out.2 0 0 := by
  refine EV.of (own := RX8) (lv0 := [(0, .ref v0), (1, .ref v1), (2, .ref v2)]) (by decide +kernel) rfl rfl (Nat.le_of_ble_eq_true rfl) ?_
  intro p l e s m args below meth c D cA B Hb C hin
  unfold f_X8_readNames at hf0
  have J89 : ∀ (h1 : aH) (t2 : Nat), f_X8_readNames_j89 h1 t2 = some out → gW p l e (rmO 3 0 0) s m args below meth c (MQ below (eQ D cA B Hb out.2 (some (.int out.1))) args s 0 0 (fun q => B ≤ q)) D cA B Hb 4 h1 89 [(1, .ref t2)] [] 0 0 := by
    intro h1 t2 hf0
    unfold f_X8_readNames_j89 at hf0
    refine r_aload_n C dX8_readNames_89 rfl ?_
    obtain ⟨t3, e4, hf0⟩ := ob hf0
    refine r_getI C fk_X8_71 rfl dX8_readNames_90 e4 ?_
    refine r_ifne (tgt := 100) C dX8_readNames_93 (by decide) (fun c5 => ?_) (fun c5 => ?_)
    · rw [if_neg c5] at hf0
      refine r_iconst (v := 0) C dX8_readNames_100 (by decide) ?_
      obtain rfl := so hf0
      exact r_zret C dX8_readNames_101 (Or.inl rfl)
    · rw [if_pos c5] at hf0
      refine r_iconst (v := 1) C dX8_readNames_96 (by decide) ?_
      refine r_goto (tgt := 101) C dX8_readNames_97 (by decide) ?_
      obtain rfl := so hf0
      exact r_zret C dX8_readNames_101 (Or.inr rfl)
  have J61 : ∀ (h6 : aH) (t7 : Nat) (t8 : Nat) (t9 : Nat) (t10 : Int32), f_X8_readNames_j61 h6 t7 t8 t9 t10 = some out → gW p l e (rmO 3 0 0) s m args below meth c (MQ below (eQ D cA B Hb out.2 (some (.int out.1))) args s 0 0 (fun q => B ≤ q)) D cA B Hb 4 h6 61 [(0, .ref t7), (1, .ref t8), (2, .ref t9), (3, .int t10)] [] 0 0 := by
    intro h6 t7 t8 t9 t10 hf0
    unfold f_X8_readNames_j61 at hf0
    refine r_iload_n C dX8_readNames_61 rfl ?_
    refine r_bipush (v := 25) C dX8_readNames_62 (by decide) ?_
    refine r_icmp_ne (tgt := 89) C dX8_readNames_64 (by decide) (fun c11 => ?_) (fun c11 => ?_)
    · rw [if_neg c11] at hf0
      refine r_subk [1] (lv' := [(1, .ref t8)]) rfl ?_
      exact J89 h6 t8 hf0
    · rw [if_pos c11] at hf0
      refine r_aload_n C dX8_readNames_67 rfl ?_
      obtain ⟨t12, e13, hf0⟩ := ob hf0
      refine r_getI C fk_X8_71 rfl dX8_readNames_68 e13 ?_
      refine r_ifne (tgt := 89) C dX8_readNames_71 (by decide) (fun c14 => ?_) (fun c14 => ?_)
      · rw [if_neg c14] at hf0
        refine r_subk [1] (lv' := [(1, .ref t8)]) rfl ?_
        exact J89 h6 t8 hf0
      · rw [if_pos c14] at hf0
        refine r_aload_n C dX8_readNames_74 rfl ?_
        obtain ⟨t15, e16, hf0⟩ := ob hf0
        refine r_getR C fk_X8_18 rfl dX8_readNames_75 e16 ?_
        refine r_aload_n C dX8_readNames_78 rfl ?_
        obtain ⟨t17, e18, hf0⟩ := ob hf0
        refine r_getI C fk_X8_31 rfl dX8_readNames_79 e18 ?_
        refine r_aload_n C dX8_readNames_82 rfl ?_
        refine r_aload_n C dX8_readNames_83 rfl ?_
        refine r_iconst (v := 2) C dX8_readNames_84 (by decide) ?_
        obtain ⟨u20, e19, hf0⟩ := ob hf0
        obtain ⟨t21, h22, e23, hf0⟩ := ob2 hf0
        refine r_cV (ci := 4) (rest := [.int t17, .ref t15]) (st2 := [.int t21, .int t17, .ref t15]) C (s_X4_takeName e23) mk_X4_takeName rfl (ck_k e19) (by decide) im_X4_takeName sl_X4_takeName lk_X8_67 rfl rfl rfl dX8_readNames_85 (Nat.le_of_ble_eq_true rfl) ⟨Nat.le_of_ble_eq_true rfl, Nat.le_of_ble_eq_true rfl⟩ ⟨Nat.le_of_ble_eq_true rfl, Nat.le_of_ble_eq_true rfl⟩ ?_
        obtain ⟨h24, e25, hf0⟩ := ob hf0
        refine r_stI C dX8_readNames_88 e25 ?_
        refine r_subk [1] (lv' := [(1, .ref t8)]) rfl ?_
        exact J89 h24 t8 hf0
  have J22 : ∀ (h26 : aH) (t27 : Nat) (t28 : Nat) (t29 : Nat) (t30 : Int32), f_X8_readNames_j22 h26 t27 t28 t29 t30 = some out → gW p l e (rmO 3 0 0) s m args below meth c (MQ below (eQ D cA B Hb out.2 (some (.int out.1))) args s 0 0 (fun q => B ≤ q)) D cA B Hb 4 h26 22 [(0, .ref t27), (1, .ref t28), (2, .ref t29), (3, .int t30)] [] 0 0 := by
    intro h26 t27 t28 t29 t30 hf0
    unfold f_X8_readNames_j22 at hf0
    refine r_aload_n C dX8_readNames_22 rfl ?_
    obtain ⟨t31, e32, hf0⟩ := ob hf0
    refine r_getR C fk_X8_15 rfl dX8_readNames_23 e32 ?_
    refine r_aload_n C dX8_readNames_26 rfl ?_
    obtain ⟨t33, e34, hf0⟩ := ob hf0
    refine r_getI C fk_X8_31 rfl dX8_readNames_27 e34 ?_
    refine r_aload_n C dX8_readNames_30 rfl ?_
    refine r_aload_n C dX8_readNames_31 rfl ?_
    refine r_iconst (v := 3) C dX8_readNames_32 (by decide) ?_
    obtain ⟨u36, e35, hf0⟩ := ob hf0
    obtain ⟨t37, h38, e39, hf0⟩ := ob2 hf0
    refine r_cV (ci := 4) (rest := [.int t33, .ref t31]) (st2 := [.int t37, .int t33, .ref t31]) C (s_X4_takeName e39) mk_X4_takeName rfl (ck_k e35) (by decide) im_X4_takeName sl_X4_takeName lk_X8_67 rfl rfl rfl dX8_readNames_33 (Nat.le_of_ble_eq_true rfl) ⟨Nat.le_of_ble_eq_true rfl, Nat.le_of_ble_eq_true rfl⟩ ⟨Nat.le_of_ble_eq_true rfl, Nat.le_of_ble_eq_true rfl⟩ ?_
    obtain ⟨h40, e41, hf0⟩ := ob hf0
    refine r_stI C dX8_readNames_36 e41 ?_
    refine r_goto (tgt := 61) C dX8_readNames_37 (by decide) ?_
    exact J61 h40 t27 t28 t29 t30 hf0
  refine r_aload_n C dX8_readNames_0 rfl ?_
  obtain ⟨t42, e43, hf0⟩ := ob hf0
  refine r_getR C fk_X8_9 rfl dX8_readNames_1 e43 ?_
  refine r_aload_n C dX8_readNames_4 rfl ?_
  obtain ⟨t44, e45, hf0⟩ := ob hf0
  refine r_getI C fk_X8_31 rfl dX8_readNames_5 e45 ?_
  obtain ⟨t46, e47, hf0⟩ := ob hf0
  refine r_ldI C dX8_readNames_8 e47 ?_
  refine r_istore_n (lv' := [(3, .int t46), (0, .ref v0), (1, .ref v1), (2, .ref v2)]) C dX8_readNames_9 (by decide) rfl rfl ?_
  refine r_iload_n C dX8_readNames_10 rfl ?_
  refine r_bipush (v := 25) C dX8_readNames_11 (by decide) ?_
  refine r_icmp_eq (tgt := 22) C dX8_readNames_13 (by decide) (fun c48 => ?_) (fun c48 => ?_)
  · rw [if_pos c48] at hf0
    refine r_subk [1, 2, 3, 0] (lv' := [(0, .ref v0), (1, .ref v1), (2, .ref v2), (3, .int t46)]) rfl ?_
    exact J22 h v0 v1 v2 t46 hf0
  · rw [if_neg c48] at hf0
    refine r_iload_n C dX8_readNames_16 rfl ?_
    refine r_bipush (v := 26) C dX8_readNames_17 (by decide) ?_
    refine r_icmp_ne (tgt := 40) C dX8_readNames_19 (by decide) (fun c49 => ?_) (fun c49 => ?_)
    · rw [if_neg c49] at hf0
      refine r_iload_n C dX8_readNames_40 rfl ?_
      refine r_bipush (v := 28) C dX8_readNames_41 (by decide) ?_
      refine r_icmp_ne (tgt := 61) C dX8_readNames_43 (by decide) (fun c50 => ?_) (fun c50 => ?_)
      · rw [if_neg c50] at hf0
        refine r_subk [1, 2, 3, 0] (lv' := [(0, .ref v0), (1, .ref v1), (2, .ref v2), (3, .int t46)]) rfl ?_
        exact J61 h v0 v1 v2 t46 hf0
      · rw [if_pos c50] at hf0
        refine r_aload_n C dX8_readNames_46 rfl ?_
        obtain ⟨t51, e52, hf0⟩ := ob hf0
        refine r_getR C fk_X8_15 rfl dX8_readNames_47 e52 ?_
        refine r_aload_n C dX8_readNames_50 rfl ?_
        obtain ⟨t53, e54, hf0⟩ := ob hf0
        refine r_getI C fk_X8_31 rfl dX8_readNames_51 e54 ?_
        refine r_aload_n C dX8_readNames_54 rfl ?_
        refine r_aload_n C dX8_readNames_55 rfl ?_
        refine r_iconst (v := 2) C dX8_readNames_56 (by decide) ?_
        obtain ⟨u56, e55, hf0⟩ := ob hf0
        obtain ⟨t57, h58, e59, hf0⟩ := ob2 hf0
        refine r_cV (ci := 4) (rest := [.int t53, .ref t51]) (st2 := [.int t57, .int t53, .ref t51]) C (s_X4_takeName e59) mk_X4_takeName rfl (ck_k e55) (by decide) im_X4_takeName sl_X4_takeName lk_X8_67 rfl rfl rfl dX8_readNames_57 (Nat.le_of_ble_eq_true rfl) ⟨Nat.le_of_ble_eq_true rfl, Nat.le_of_ble_eq_true rfl⟩ ⟨Nat.le_of_ble_eq_true rfl, Nat.le_of_ble_eq_true rfl⟩ ?_
        obtain ⟨h60, e61, hf0⟩ := ob hf0
        refine r_stI C dX8_readNames_60 e61 ?_
        refine r_subk [1, 2, 3, 0] (lv' := [(0, .ref v0), (1, .ref v1), (2, .ref v2), (3, .int t46)]) rfl ?_
        exact J61 h60 v0 v1 v2 t46 hf0
    · rw [if_pos c49] at hf0
      refine r_subk [1, 2, 3, 0] (lv' := [(0, .ref v0), (1, .ref v1), (2, .ref v2), (3, .int t46)]) rfl ?_
      exact J22 h v0 v1 v2 t46 hf0
def f_X8_readStep_j103 (h : aH) (v0 : Nat) (v1 : Nat) : Option (Int32 × aH) := (gI h 8 v0 6).bind fun t1 => (pI h 8 v0 6 (t1 + (1 : Int32))).bind fun h2 => (ck h2 4 v1).bind fun _ => bd2 (f_X4_take h2 v1 (3 : Int32)) fun t3 h4 => (rZ t3).bind fun t5 => some (t5, h4)
def f_X8_readStep_j60 (h : aH) (v0 : Nat) (v1 : Nat) (v2 : Nat) (v3 : Int32) : Option (Int32 × aH) := (ck h 4 v1).bind fun _ => (f_X4_advance h v1).bind fun h6 => (gR h6 8 v0 0).bind fun t7 => (gI h6 8 v0 6).bind fun t8 => (sI h6 t7 t8 v3).bind fun h9 => if v3 = (29 : Int32) then (ck h9 8 v0).bind fun _ => bd2 (f_X8_readTest h9 v0 v1 v2) fun t12 h13 => if t12 = 0 then some ((0 : Int32), h13) else f_X8_readStep_j103 h13 v0 v1 else (ck h9 8 v0).bind fun _ => bd2 (f_X8_readNames h9 v0 v1 v2) fun t10 h11 => if t10 = 0 then some ((0 : Int32), h11) else f_X8_readStep_j103 h11 v0 v1
def f_X8_readStep_j17 (h : aH) (v1 : Nat) : Option (Int32 × aH) := (ck h 4 v1).bind fun _ => bd2 (f_X4_refuseHere h v1 (2 : Int32)) fun t14 h15 => (rZ t14).bind fun t16 => some (t16, h15)
def f_X8_readStep (h : aH) (v0 : Nat) (v1 : Nat) (v2 : Nat) : Option (Int32 × aH) := (gI h 4 v1 10).bind fun t17 => if t17 < (25 : Int32) then f_X8_readStep_j17 h v1 else if t17 ≤ (29 : Int32) then (gI h 8 v0 6).bind fun t18 => if t18 < (30 : Int32) then if t17 = (29 : Int32) then (gI h 8 v0 5).bind fun t19 => if t19 < (3 : Int32) then f_X8_readStep_j60 h v0 v1 v2 t17 else (ck h 4 v1).bind fun _ => bd2 (f_X4_refuseHere h v1 (7 : Int32)) fun t20 h21 => (rZ t20).bind fun t22 => some (t22, h21) else f_X8_readStep_j60 h v0 v1 v2 t17 else (ck h 4 v1).bind fun _ => bd2 (f_X4_refuseHere h v1 (6 : Int32)) fun t23 h24 => (rZ t23).bind fun t25 => some (t25, h24) else f_X8_readStep_j17 h v1
theorem s_X8_readStep {h : aH} {v0 : Nat} {v1 : Nat} {v2 : Nat} {out : Int32 × aH} (hf0 : f_X8_readStep h v0 v1 v2 = some out) : EV 4 yX8_readStep cX8_readStep 4 (some .boolean) h [.ref v0, .ref v1, .ref v2] (some (.int out.1)) out.2 0 0 := by
  refine EV.of (own := RX8) (lv0 := [(0, .ref v0), (1, .ref v1), (2, .ref v2)]) (by decide +kernel) rfl rfl (Nat.le_of_ble_eq_true rfl) ?_
  intro p l e s m args below meth c D cA B Hb C hin
  unfold f_X8_readStep at hf0
  have J103 : ∀ (h1 : aH) (t2 : Nat) (t3 : Nat), f_X8_readStep_j103 h1 t2 t3 = some out → gW p l e (rmO 4 0 0) s m args below meth c (MQ below (eQ D cA B Hb out.2 (some (.int out.1))) args s 0 0 (fun q => B ≤ q)) D cA B Hb 4 h1 103 [(0, .ref t2), (1, .ref t3)] [] 0 0 := by
    intro h1 t2 t3 hf0
    unfold f_X8_readStep_j103 at hf0
    refine r_aload_n C dX8_readStep_103 rfl ?_
    refine r_dup C dX8_readStep_104 rfl ?_
    obtain ⟨t4, e5, hf0⟩ := ob hf0
    refine r_getI C fk_X8_31 rfl dX8_readStep_105 e5 ?_
    refine r_iconst (v := 1) C dX8_readStep_108 (by decide) ?_
    refine r_iadd C dX8_readStep_109 ?_
    obtain ⟨h6, e7, hf0⟩ := ob hf0
    refine r_putI C fk_X8_31 dX8_readStep_110 e7 ?_
    refine r_aload_n C dX8_readStep_113 rfl ?_
    refine r_iconst (v := 3) C dX8_readStep_114 (by decide) ?_
    obtain ⟨u9, e8, hf0⟩ := ob hf0
    obtain ⟨t10, h11, e12, hf0⟩ := ob2 hf0
    refine r_cV (ci := 4) (rest := []) (st2 := [.int t10]) C (s_X4_take e12) mk_X4_take rfl (ck_k e8) (by decide) im_X4_take sl_X4_take lk_X8_58 rfl rfl rfl dX8_readStep_115 (Nat.le_of_ble_eq_true rfl) ⟨Nat.le_of_ble_eq_true rfl, Nat.le_of_ble_eq_true rfl⟩ ⟨Nat.le_of_ble_eq_true rfl, Nat.le_of_ble_eq_true rfl⟩ ?_
    obtain ⟨t13, e14, hf0⟩ := ob hf0
    obtain ⟨rfl, e14z⟩ := rZ_k e14
    obtain rfl := so hf0
    exact r_zret C dX8_readStep_118 e14z
  have J60 : ∀ (h15 : aH) (t16 : Nat) (t17 : Nat) (t18 : Nat) (t19 : Int32), f_X8_readStep_j60 h15 t16 t17 t18 t19 = some out → gW p l e (rmO 4 0 0) s m args below meth c (MQ below (eQ D cA B Hb out.2 (some (.int out.1))) args s 0 0 (fun q => B ≤ q)) D cA B Hb 4 h15 60 [(0, .ref t16), (1, .ref t17), (2, .ref t18), (3, .int t19)] [] 0 0 := by
    intro h15 t16 t17 t18 t19 hf0
    unfold f_X8_readStep_j60 at hf0
    refine r_aload_n C dX8_readStep_60 rfl ?_
    obtain ⟨u21, e20, hf0⟩ := ob hf0
    obtain ⟨h22, e23, hf0⟩ := ob hf0
    refine r_cV (ci := 4) (rest := []) (st2 := []) C (s_X4_advance e23) mk_X4_advance rfl (ck_k e20) (by decide) im_X4_advance sl_X4_advance lk_X8_55 rfl rfl rfl dX8_readStep_61 (Nat.le_of_ble_eq_true rfl) ⟨Nat.le_of_ble_eq_true rfl, Nat.le_of_ble_eq_true rfl⟩ ⟨Nat.le_of_ble_eq_true rfl, Nat.le_of_ble_eq_true rfl⟩ ?_
    refine r_aload_n C dX8_readStep_64 rfl ?_
    obtain ⟨t24, e25, hf0⟩ := ob hf0
    refine r_getR C fk_X8_9 rfl dX8_readStep_65 e25 ?_
    refine r_aload_n C dX8_readStep_68 rfl ?_
    obtain ⟨t26, e27, hf0⟩ := ob hf0
    refine r_getI C fk_X8_31 rfl dX8_readStep_69 e27 ?_
    refine r_iload_n C dX8_readStep_72 rfl ?_
    obtain ⟨h28, e29, hf0⟩ := ob hf0
    refine r_stI C dX8_readStep_73 e29 ?_
    refine r_iload_n C dX8_readStep_74 rfl ?_
    refine r_bipush (v := 29) C dX8_readStep_75 (by decide) ?_
    refine r_icmp_ne (tgt := 92) C dX8_readStep_77 (by decide) (fun c30 => ?_) (fun c30 => ?_)
    · rw [if_neg c30] at hf0
      refine r_aload_n C dX8_readStep_92 rfl ?_
      refine r_aload_n C dX8_readStep_93 rfl ?_
      refine r_aload_n C dX8_readStep_94 rfl ?_
      obtain ⟨u32, e31, hf0⟩ := ob hf0
      obtain ⟨t33, h34, e35, hf0⟩ := ob2 hf0
      refine r_cV (ci := 8) (rest := []) (st2 := [.int t33]) C (s_X8_readNames e35) mk_X8_readNames rfl (ck_k e31) (by decide) im_X8_readNames sl_X8_readNames lk_X8_64 rfl rfl rfl dX8_readStep_95 (Nat.le_of_ble_eq_true rfl) ⟨Nat.le_of_ble_eq_true rfl, Nat.le_of_ble_eq_true rfl⟩ ⟨Nat.le_of_ble_eq_true rfl, Nat.le_of_ble_eq_true rfl⟩ ?_
      refine r_ifne (tgt := 103) C dX8_readStep_98 (by decide) (fun c36 => ?_) (fun c36 => ?_)
      · rw [if_neg c36] at hf0
        refine r_subk [0, 1] (lv' := [(0, .ref t16), (1, .ref t17)]) rfl ?_
        exact J103 h34 t16 t17 hf0
      · rw [if_pos c36] at hf0
        refine r_iconst (v := 0) C dX8_readStep_101 (by decide) ?_
        obtain rfl := so hf0
        exact r_zret C dX8_readStep_102 (Or.inl rfl)
    · rw [if_pos c30] at hf0
      refine r_aload_n C dX8_readStep_80 rfl ?_
      refine r_aload_n C dX8_readStep_81 rfl ?_
      refine r_aload_n C dX8_readStep_82 rfl ?_
      obtain ⟨u38, e37, hf0⟩ := ob hf0
      obtain ⟨t39, h40, e41, hf0⟩ := ob2 hf0
      refine r_cV (ci := 8) (rest := []) (st2 := [.int t39]) C (s_X8_readTest e41) mk_X8_readTest rfl (ck_k e37) (by decide) im_X8_readTest sl_X8_readTest lk_X8_61 rfl rfl rfl dX8_readStep_83 (Nat.le_of_ble_eq_true rfl) ⟨Nat.le_of_ble_eq_true rfl, Nat.le_of_ble_eq_true rfl⟩ ⟨Nat.le_of_ble_eq_true rfl, Nat.le_of_ble_eq_true rfl⟩ ?_
      refine r_ifeq (tgt := 101) C dX8_readStep_86 (by decide) (fun c42 => ?_) (fun c42 => ?_)
      · rw [if_pos c42] at hf0
        refine r_iconst (v := 0) C dX8_readStep_101 (by decide) ?_
        obtain rfl := so hf0
        exact r_zret C dX8_readStep_102 (Or.inl rfl)
      · rw [if_neg c42] at hf0
        refine r_goto (tgt := 103) C dX8_readStep_89 (by decide) ?_
        refine r_subk [0, 1] (lv' := [(0, .ref t16), (1, .ref t17)]) rfl ?_
        exact J103 h40 t16 t17 hf0
  have J17 : ∀ (h43 : aH) (t44 : Nat), f_X8_readStep_j17 h43 t44 = some out → gW p l e (rmO 4 0 0) s m args below meth c (MQ below (eQ D cA B Hb out.2 (some (.int out.1))) args s 0 0 (fun q => B ≤ q)) D cA B Hb 4 h43 17 [(1, .ref t44)] [] 0 0 := by
    intro h43 t44 hf0
    unfold f_X8_readStep_j17 at hf0
    refine r_aload_n C dX8_readStep_17 rfl ?_
    refine r_iconst (v := 2) C dX8_readStep_18 (by decide) ?_
    obtain ⟨u46, e45, hf0⟩ := ob hf0
    obtain ⟨t47, h48, e49, hf0⟩ := ob2 hf0
    refine r_cV (ci := 4) (rest := []) (st2 := [.int t47]) C (s_X4_refuseHere e49) mk_X4_refuseHere rfl (ck_k e45) (by decide) im_X4_refuseHere sl_X4_refuseHere lk_X8_51 rfl rfl rfl dX8_readStep_19 (Nat.le_of_ble_eq_true rfl) ⟨Nat.le_of_ble_eq_true rfl, Nat.le_of_ble_eq_true rfl⟩ ⟨Nat.le_of_ble_eq_true rfl, Nat.le_of_ble_eq_true rfl⟩ ?_
    obtain ⟨t50, e51, hf0⟩ := ob hf0
    obtain ⟨rfl, e51z⟩ := rZ_k e51
    obtain rfl := so hf0
    exact r_zret C dX8_readStep_22 e51z
  refine r_aload_n C dX8_readStep_0 rfl ?_
  obtain ⟨t52, e53, hf0⟩ := ob hf0
  refine r_getI C fk_X8_38 rfl dX8_readStep_1 e53 ?_
  refine r_istore_n (lv' := [(3, .int t52), (0, .ref v0), (1, .ref v1), (2, .ref v2)]) C dX8_readStep_4 (by decide) rfl rfl ?_
  refine r_iload_n C dX8_readStep_5 rfl ?_
  refine r_bipush (v := 25) C dX8_readStep_6 (by decide) ?_
  refine r_icmp_lt (tgt := 17) C dX8_readStep_8 (by decide) (fun c54 => ?_) (fun c54 => ?_)
  · rw [if_pos c54] at hf0
    refine r_subk [2] (lv' := [(1, .ref v1)]) rfl ?_
    exact J17 h v1 hf0
  · rw [if_neg c54] at hf0
    refine r_iload_n C dX8_readStep_11 rfl ?_
    refine r_bipush (v := 29) C dX8_readStep_12 (by decide) ?_
    refine r_icmp_le (tgt := 23) C dX8_readStep_14 (by decide) (fun c55 => ?_) (fun c55 => ?_)
    · rw [if_pos c55] at hf0
      refine r_aload_n C dX8_readStep_23 rfl ?_
      obtain ⟨t56, e57, hf0⟩ := ob hf0
      refine r_getI C fk_X8_31 rfl dX8_readStep_24 e57 ?_
      refine r_bipush (v := 30) C dX8_readStep_27 (by decide) ?_
      refine r_icmp_lt (tgt := 39) C dX8_readStep_29 (by decide) (fun c58 => ?_) (fun c58 => ?_)
      · rw [if_pos c58] at hf0
        refine r_iload_n C dX8_readStep_39 rfl ?_
        refine r_bipush (v := 29) C dX8_readStep_40 (by decide) ?_
        refine r_icmp_ne (tgt := 60) C dX8_readStep_42 (by decide) (fun c59 => ?_) (fun c59 => ?_)
        · rw [if_neg c59] at hf0
          refine r_subk [1, 2, 3, 0] (lv' := [(0, .ref v0), (1, .ref v1), (2, .ref v2), (3, .int t52)]) rfl ?_
          exact J60 h v0 v1 v2 t52 hf0
        · rw [if_pos c59] at hf0
          refine r_aload_n C dX8_readStep_45 rfl ?_
          obtain ⟨t60, e61, hf0⟩ := ob hf0
          refine r_getI C fk_X8_27 rfl dX8_readStep_46 e61 ?_
          refine r_iconst (v := 3) C dX8_readStep_49 (by decide) ?_
          refine r_icmp_lt (tgt := 60) C dX8_readStep_50 (by decide) (fun c62 => ?_) (fun c62 => ?_)
          · rw [if_pos c62] at hf0
            refine r_subk [1, 2, 3, 0] (lv' := [(0, .ref v0), (1, .ref v1), (2, .ref v2), (3, .int t52)]) rfl ?_
            exact J60 h v0 v1 v2 t52 hf0
          · rw [if_neg c62] at hf0
            refine r_aload_n C dX8_readStep_53 rfl ?_
            refine r_bipush (v := 7) C dX8_readStep_54 (by decide) ?_
            obtain ⟨u64, e63, hf0⟩ := ob hf0
            obtain ⟨t65, h66, e67, hf0⟩ := ob2 hf0
            refine r_cV (ci := 4) (rest := []) (st2 := [.int t65]) C (s_X4_refuseHere e67) mk_X4_refuseHere rfl (ck_k e63) (by decide) im_X4_refuseHere sl_X4_refuseHere lk_X8_51 rfl rfl rfl dX8_readStep_56 (Nat.le_of_ble_eq_true rfl) ⟨Nat.le_of_ble_eq_true rfl, Nat.le_of_ble_eq_true rfl⟩ ⟨Nat.le_of_ble_eq_true rfl, Nat.le_of_ble_eq_true rfl⟩ ?_
            obtain ⟨t68, e69, hf0⟩ := ob hf0
            obtain ⟨rfl, e69z⟩ := rZ_k e69
            obtain rfl := so hf0
            exact r_zret C dX8_readStep_59 e69z
      · rw [if_neg c58] at hf0
        refine r_aload_n C dX8_readStep_32 rfl ?_
        refine r_bipush (v := 6) C dX8_readStep_33 (by decide) ?_
        obtain ⟨u71, e70, hf0⟩ := ob hf0
        obtain ⟨t72, h73, e74, hf0⟩ := ob2 hf0
        refine r_cV (ci := 4) (rest := []) (st2 := [.int t72]) C (s_X4_refuseHere e74) mk_X4_refuseHere rfl (ck_k e70) (by decide) im_X4_refuseHere sl_X4_refuseHere lk_X8_51 rfl rfl rfl dX8_readStep_35 (Nat.le_of_ble_eq_true rfl) ⟨Nat.le_of_ble_eq_true rfl, Nat.le_of_ble_eq_true rfl⟩ ⟨Nat.le_of_ble_eq_true rfl, Nat.le_of_ble_eq_true rfl⟩ ?_
        obtain ⟨t75, e76, hf0⟩ := ob hf0
        obtain ⟨rfl, e76z⟩ := rZ_k e76
        obtain rfl := so hf0
        exact r_zret C dX8_readStep_38 e76z
    · rw [if_neg c55] at hf0
      refine r_subk [2] (lv' := [(1, .ref v1)]) rfl ?_
      exact J17 h v1 hf0
def f_X8_readSteps_j68 (h : aH) (v0 : Nat) (v1 : Nat) : Option (Int32 × aH) := (gI h 8 v0 5).bind fun t1 => if t1 = 0 then some ((1 : Int32), h) else (ck h 4 v1).bind fun _ => bd2 (f_X4_refuseHere h v1 (2 : Int32)) fun t2 h3 => if t2 = 0 then some ((0 : Int32), h3) else some ((1 : Int32), h3)
def f_X8_readSteps_j62 (h : aH) (v0 : Nat) (v1 : Nat) (v2 : Nat) (v3 : Int32) : Option ((Int32 × aH) ⊕ ((aH) ⊕ (aH))) := (some (v3 + (1 : Int32))).bind fun t7 => some (.inl (t7, h))
def f_X8_readSteps_b17 (v0 : Nat) (v1 : Nat) (v2 : Nat) (v3 : Int32) (h : aH) : Option ((Int32 × aH) ⊕ ((aH) ⊕ (aH))) := if (901 : Int32) ≤ v3 then some (.inr (.inr h)) else (gI h 4 v1 10).bind fun t8 => if t8 = 0 then some (.inr (.inr h)) else (gI h 4 v1 10).bind fun t9 => if t9 = (34 : Int32) then (ck h 8 v0).bind fun _ => bd2 (f_X8_readEnd h v0 v1) fun t12 h13 => if t12 = 0 then some (.inr (.inl h13)) else f_X8_readSteps_j62 h13 v0 v1 v2 v3 else (ck h 8 v0).bind fun _ => bd2 (f_X8_readStep h v0 v1 v2) fun t10 h11 => if t10 = 0 then some (.inr (.inl h11)) else f_X8_readSteps_j62 h11 v0 v1 v2 v3
def f_X8_readSteps_l17 (v0 : Nat) (v1 : Nat) (v2 : Nat) (v3 : Int32) (h : aH) : Option ((aH) ⊕ (aH)) := whileL wN (fun q : Int32 × aH => f_X8_readSteps_b17 v0 v1 v2 q.1 q.2) (v3, h)
def f_X8_readSteps (h : aH) (v0 : Nat) (v1 : Nat) (v2 : Nat) : Option (Int32 × aH) := (pI h 8 v0 6 (0 : Int32)).bind fun h4 => (pI h4 8 v0 5 (0 : Int32)).bind fun h5 => (pZ h5 8 v0 7 (1 : Int32)).bind fun h6 => (f_X8_readSteps_l17 v0 v1 v2 (0 : Int32) h6).bind fun e => match e with | .inl h14 => some ((0 : Int32), h14) | .inr h15 => f_X8_readSteps_j68 h15 v0 v1
theorem s_X8_readSteps {h : aH} {v0 : Nat} {v1 : Nat} {v2 : Nat} {out : Int32 × aH} (hf0 : f_X8_readSteps h v0 v1 v2 = some out) : EV 5 yX8_readSteps cX8_readSteps 4 (some .boolean) h [.ref v0, .ref v1, .ref v2] (some (.int out.1)) out.2 0 0 := by
  refine EV.of (own := RX8) (lv0 := [(0, .ref v0), (1, .ref v1), (2, .ref v2)]) (by decide +kernel) rfl rfl (Nat.le_of_ble_eq_true rfl) ?_
  intro p l e s m args below meth c D cA B Hb C hin
  unfold f_X8_readSteps at hf0
  have J68 : ∀ (h1 : aH) (t2 : Nat) (t3 : Nat), f_X8_readSteps_j68 h1 t2 t3 = some out → gW p l e (rmO 5 0 0) s m args below meth c (MQ below (eQ D cA B Hb out.2 (some (.int out.1))) args s 0 0 (fun q => B ≤ q)) D cA B Hb 4 h1 68 [(0, .ref t2), (1, .ref t3)] [] 0 0 := by
    intro h1 t2 t3 hf0
    unfold f_X8_readSteps_j68 at hf0
    refine r_aload_n C dX8_readSteps_68 rfl ?_
    obtain ⟨t4, e5, hf0⟩ := ob hf0
    refine r_getI C fk_X8_27 rfl dX8_readSteps_69 e5 ?_
    refine r_ifeq (tgt := 83) C dX8_readSteps_72 (by decide) (fun c6 => ?_) (fun c6 => ?_)
    · rw [if_pos c6] at hf0
      refine r_iconst (v := 1) C dX8_readSteps_83 (by decide) ?_
      refine r_goto (tgt := 88) C dX8_readSteps_84 (by decide) ?_
      obtain rfl := so hf0
      exact r_zret C dX8_readSteps_88 (Or.inr rfl)
    · rw [if_neg c6] at hf0
      refine r_aload_n C dX8_readSteps_75 rfl ?_
      refine r_iconst (v := 2) C dX8_readSteps_76 (by decide) ?_
      obtain ⟨u8, e7, hf0⟩ := ob hf0
      obtain ⟨t9, h10, e11, hf0⟩ := ob2 hf0
      refine r_cV (ci := 4) (rest := []) (st2 := [.int t9]) C (s_X4_refuseHere e11) mk_X4_refuseHere rfl (ck_k e7) (by decide) im_X4_refuseHere sl_X4_refuseHere lk_X8_51 rfl rfl rfl dX8_readSteps_77 (Nat.le_of_ble_eq_true rfl) ⟨Nat.le_of_ble_eq_true rfl, Nat.le_of_ble_eq_true rfl⟩ ⟨Nat.le_of_ble_eq_true rfl, Nat.le_of_ble_eq_true rfl⟩ ?_
      refine r_ifeq (tgt := 87) C dX8_readSteps_80 (by decide) (fun c12 => ?_) (fun c12 => ?_)
      · rw [if_pos c12] at hf0
        refine r_iconst (v := 0) C dX8_readSteps_87 (by decide) ?_
        obtain rfl := so hf0
        exact r_zret C dX8_readSteps_88 (Or.inl rfl)
      · rw [if_neg c12] at hf0
        refine r_iconst (v := 1) C dX8_readSteps_83 (by decide) ?_
        refine r_goto (tgt := 88) C dX8_readSteps_84 (by decide) ?_
        obtain rfl := so hf0
        exact r_zret C dX8_readSteps_88 (Or.inr rfl)
  refine r_aload_n C dX8_readSteps_0 rfl ?_
  refine r_iconst (v := 0) C dX8_readSteps_1 (by decide) ?_
  obtain ⟨h13, e14, hf0⟩ := ob hf0
  refine r_putI C fk_X8_31 dX8_readSteps_2 e14 ?_
  refine r_aload_n C dX8_readSteps_5 rfl ?_
  refine r_iconst (v := 0) C dX8_readSteps_6 (by decide) ?_
  obtain ⟨h15, e16, hf0⟩ := ob hf0
  refine r_putI C fk_X8_27 dX8_readSteps_7 e16 ?_
  refine r_aload_n C dX8_readSteps_10 rfl ?_
  refine r_iconst (v := 1) C dX8_readSteps_11 (by decide) ?_
  obtain ⟨h17, e18, hf0⟩ := ob hf0
  refine r_putZ C fk_X8_34 dX8_readSteps_12 e18 ?_
  refine r_iconst (v := 0) C dX8_readSteps_15 (by decide) ?_
  refine r_istore_n (lv' := [(3, .int (0 : Int32)), (0, .ref v0), (1, .ref v1), (2, .ref v2)]) C dX8_readSteps_16 (by decide) rfl rfl ?_
  obtain ⟨y19, hl17, hf0⟩ := ob hf0
  have L17 : ∀ (n : Nat) (t20 : Int32) (h21 : aH), whileL n (fun q : Int32 × aH => f_X8_readSteps_b17 v0 v1 v2 q.1 q.2) (t20, h21) = some y19 → gW p l e (rmO 5 0 0) s m args below meth c (MQ below (eQ D cA B Hb out.2 (some (.int out.1))) args s 0 0 (fun q => B ≤ q)) D cA B Hb 4 h21 17 [(0, .ref v0), (1, .ref v1), (2, .ref v2), (3, .int t20)] [] 0 0 := by
    intro n
    induction n with
    | zero => intro t20 h21 hz; cases hz
    | succ n ih17 =>
      intro t20 h21 hz
      obtain ⟨x17, hf1, hk17⟩ := wl hz
      replace hf1 : f_X8_readSteps_b17 v0 v1 v2 t20 h21 = some x17 := hf1
      unfold f_X8_readSteps_b17 at hf1
      have J62 : ∀ (h22 : aH) (t23 : Int32), f_X8_readSteps_j62 h22 v0 v1 v2 t23 = some x17 → gW p l e (rmO 5 0 0) s m args below meth c (MQ below (eQ D cA B Hb out.2 (some (.int out.1))) args s 0 0 (fun q => B ≤ q)) D cA B Hb 4 h22 62 [(0, .ref v0), (1, .ref v1), (2, .ref v2), (3, .int t23)] [] 0 0 := by
        intro h22 t23 hf1
        unfold f_X8_readSteps_j62 at hf1
        obtain ⟨t24, e25, hf1⟩ := ob hf1
        refine r_iinc (lv' := [(3, .int t24), (0, .ref v0), (1, .ref v1), (2, .ref v2)]) C dX8_readSteps_62 rfl e25 (by decide) rfl ?_
        refine r_goto (tgt := 17) C dX8_readSteps_65 (by decide) ?_
        obtain rfl := so hf1
        refine r_subk [1, 2, 3, 0] (lv' := [(0, .ref v0), (1, .ref v1), (2, .ref v2), (3, .int t24)]) rfl ?_
        exact ih17 t24 h22 hk17
      refine r_iload_n C dX8_readSteps_17 rfl ?_
      refine r_sipush (v := 901) C dX8_readSteps_18 (by decide) ?_
      refine r_icmp_ge (tgt := 68) C dX8_readSteps_21 (by decide) (fun c26 => ?_) (fun c26 => ?_)
      · rw [if_pos c26] at hf1
        obtain rfl := so hf1
        obtain rfl := so (show some (.inr h21 : (aH) ⊕ (aH)) = some y19 from hk17)
        dsimp only at hf0
        refine r_subk [0, 1] (lv' := [(0, .ref v0), (1, .ref v1)]) rfl ?_
        exact J68 h21 v0 v1 hf0
      · rw [if_neg c26] at hf1
        refine r_aload_n C dX8_readSteps_24 rfl ?_
        obtain ⟨t27, e28, hf1⟩ := ob hf1
        refine r_getI C fk_X8_38 rfl dX8_readSteps_25 e28 ?_
        refine r_ifeq (tgt := 68) C dX8_readSteps_28 (by decide) (fun c29 => ?_) (fun c29 => ?_)
        · rw [if_pos c29] at hf1
          obtain rfl := so hf1
          obtain rfl := so (show some (.inr h21 : (aH) ⊕ (aH)) = some y19 from hk17)
          dsimp only at hf0
          refine r_subk [0, 1] (lv' := [(0, .ref v0), (1, .ref v1)]) rfl ?_
          exact J68 h21 v0 v1 hf0
        · rw [if_neg c29] at hf1
          refine r_aload_n C dX8_readSteps_31 rfl ?_
          obtain ⟨t30, e31, hf1⟩ := ob hf1
          refine r_getI C fk_X8_38 rfl dX8_readSteps_32 e31 ?_
          refine r_bipush (v := 34) C dX8_readSteps_35 (by decide) ?_
          refine r_icmp_ne (tgt := 51) C dX8_readSteps_37 (by decide) (fun c32 => ?_) (fun c32 => ?_)
          · rw [if_neg c32] at hf1
            refine r_aload_n C dX8_readSteps_51 rfl ?_
            refine r_aload_n C dX8_readSteps_52 rfl ?_
            refine r_aload_n C dX8_readSteps_53 rfl ?_
            obtain ⟨u34, e33, hf1⟩ := ob hf1
            obtain ⟨t35, h36, e37, hf1⟩ := ob2 hf1
            refine r_cV (ci := 8) (rest := []) (st2 := [.int t35]) C (s_X8_readStep e37) mk_X8_readStep rfl (ck_k e33) (by decide) im_X8_readStep sl_X8_readStep lk_X8_47 rfl rfl rfl dX8_readSteps_54 (Nat.le_of_ble_eq_true rfl) ⟨Nat.le_of_ble_eq_true rfl, Nat.le_of_ble_eq_true rfl⟩ ⟨Nat.le_of_ble_eq_true rfl, Nat.le_of_ble_eq_true rfl⟩ ?_
            refine r_ifne (tgt := 62) C dX8_readSteps_57 (by decide) (fun c38 => ?_) (fun c38 => ?_)
            · rw [if_neg c38] at hf1
              exact J62 h36 t20 hf1
            · rw [if_pos c38] at hf1
              obtain rfl := so hf1
              obtain rfl := so (show some (.inl h36 : (aH) ⊕ (aH)) = some y19 from hk17)
              dsimp only at hf0
              refine r_iconst (v := 0) C dX8_readSteps_60 (by decide) ?_
              obtain rfl := so hf0
              exact r_zret C dX8_readSteps_61 (Or.inl rfl)
          · rw [if_pos c32] at hf1
            refine r_aload_n C dX8_readSteps_40 rfl ?_
            refine r_aload_n C dX8_readSteps_41 rfl ?_
            obtain ⟨u40, e39, hf1⟩ := ob hf1
            obtain ⟨t41, h42, e43, hf1⟩ := ob2 hf1
            refine r_cV (ci := 8) (rest := []) (st2 := [.int t41]) C (s_X8_readEnd e43) mk_X8_readEnd rfl (ck_k e39) (by decide) im_X8_readEnd sl_X8_readEnd lk_X8_43 rfl rfl rfl dX8_readSteps_42 (Nat.le_of_ble_eq_true rfl) ⟨Nat.le_of_ble_eq_true rfl, Nat.le_of_ble_eq_true rfl⟩ ⟨Nat.le_of_ble_eq_true rfl, Nat.le_of_ble_eq_true rfl⟩ ?_
            refine r_ifeq (tgt := 60) C dX8_readSteps_45 (by decide) (fun c44 => ?_) (fun c44 => ?_)
            · rw [if_pos c44] at hf1
              obtain rfl := so hf1
              obtain rfl := so (show some (.inl h42 : (aH) ⊕ (aH)) = some y19 from hk17)
              dsimp only at hf0
              refine r_iconst (v := 0) C dX8_readSteps_60 (by decide) ?_
              obtain rfl := so hf0
              exact r_zret C dX8_readSteps_61 (Or.inl rfl)
            · rw [if_neg c44] at hf1
              refine r_goto (tgt := 62) C dX8_readSteps_48 (by decide) ?_
              exact J62 h42 t20 hf1
  refine r_subk [1, 2, 3, 0] (lv' := [(0, .ref v0), (1, .ref v1), (2, .ref v2), (3, .int (0 : Int32))]) rfl ?_
  exact L17 wN (0 : Int32) h17 hl17
def f_X9_init (h : aH) (v0 : Nat) (v1 : Nat) : Option (aH) := bd2 (nwO h 20 768) fun t1 h2 => (pR h2 9 v0 1 t1).bind fun h3 => bd2 (nwO h3 20 768) fun t4 h5 => (pR h5 9 v0 2 t4).bind fun h6 => bd2 (nwO h6 20 3) fun t7 h8 => (pR h8 9 v0 3 t7).bind fun h9 => bd2 (nwO h9 20 3072) fun t10 h11 => (pR h11 9 v0 4 t10).bind fun h12 => (pI h12 9 v0 5 (0 : Int32)).bind fun h13 => (pI h13 9 v0 6 (0 : Int32)).bind fun h14 => (pI h14 9 v0 7 (0 : Int32)).bind fun h15 => (pI h15 9 v0 8 (-1 : Int32)).bind fun h16 => (pR h16 9 v0 0 v1).bind fun h17 => some h17
theorem s_X9_init {h : aH} {v0 : Nat} {v1 : Nat} {out : aH} (hf0 : f_X9_init h v0 v1 = some out) : EV 1 yX9_init cX9_init 2 none h [.ref v0, .ref v1] none out 4 4611 := by
  refine EV.of (own := RX9) (lv0 := [(0, .ref v0), (1, .ref v1)]) (by decide +kernel) rfl rfl (Nat.le_of_ble_eq_true rfl) ?_
  intro p l e s m args below meth c D cA B Hb C hin
  unfold f_X9_init at hf0
  refine r_aload_n C dX9_init_0 rfl ?_
  refine r_obj C lk_X9_3 dX9_init_1 ⟨Nat.le_of_ble_eq_true rfl, Nat.le_of_ble_eq_true rfl⟩ (Nat.le_of_ble_eq_true rfl) ?_
  refine r_aload_n C dX9_init_4 rfl ?_
  refine r_sipush (v := 768) C dX9_init_5 (by decide) ?_
  obtain ⟨t1, h2, e3, hf0⟩ := ob2 hf0
  refine r_newIE C dX9_init_8 (by decide) (by decide) (by decide) ⟨Nat.le_of_ble_eq_true rfl, Nat.le_of_ble_eq_true rfl⟩ e3 ?_
  obtain ⟨h4, e5, hf0⟩ := ob hf0
  refine r_putFR C fk_X9_9 ⟨_, _, rfl⟩ (Or.inr ⟨_, rfl⟩) hin dX9_init_10 e5 ?_
  refine r_aload_n C dX9_init_13 rfl ?_
  refine r_sipush (v := 768) C dX9_init_14 (by decide) ?_
  obtain ⟨t6, h7, e8, hf0⟩ := ob2 hf0
  refine r_newIE C dX9_init_17 (by decide) (by decide) (by decide) ⟨Nat.le_of_ble_eq_true rfl, Nat.le_of_ble_eq_true rfl⟩ e8 ?_
  obtain ⟨h9, e10, hf0⟩ := ob hf0
  refine r_putFR C fk_X9_15 ⟨_, _, rfl⟩ (Or.inr ⟨_, rfl⟩) hin dX9_init_19 e10 ?_
  refine r_aload_n C dX9_init_22 rfl ?_
  refine r_iconst (v := 3) C dX9_init_23 (by decide) ?_
  obtain ⟨t11, h12, e13, hf0⟩ := ob2 hf0
  refine r_newIE C dX9_init_24 (by decide) (by decide) (by decide) ⟨Nat.le_of_ble_eq_true rfl, Nat.le_of_ble_eq_true rfl⟩ e13 ?_
  obtain ⟨h14, e15, hf0⟩ := ob hf0
  refine r_putFR C fk_X9_18 ⟨_, _, rfl⟩ (Or.inr ⟨_, rfl⟩) hin dX9_init_26 e15 ?_
  refine r_aload_n C dX9_init_29 rfl ?_
  refine r_sipush (v := 3072) C dX9_init_30 (by decide) ?_
  obtain ⟨t16, h17, e18, hf0⟩ := ob2 hf0
  refine r_newIE C dX9_init_33 (by decide) (by decide) (by decide) ⟨Nat.le_of_ble_eq_true rfl, Nat.le_of_ble_eq_true rfl⟩ e18 ?_
  obtain ⟨h19, e20, hf0⟩ := ob hf0
  refine r_putFR C fk_X9_21 ⟨_, _, rfl⟩ (Or.inr ⟨_, rfl⟩) hin dX9_init_35 e20 ?_
  refine r_aload_n C dX9_init_38 rfl ?_
  refine r_iconst (v := 0) C dX9_init_39 (by decide) ?_
  obtain ⟨h21, e22, hf0⟩ := ob hf0
  refine r_putI C fk_X9_24 dX9_init_40 e22 ?_
  refine r_aload_n C dX9_init_43 rfl ?_
  refine r_iconst (v := 0) C dX9_init_44 (by decide) ?_
  obtain ⟨h23, e24, hf0⟩ := ob hf0
  refine r_putI C fk_X9_28 dX9_init_45 e24 ?_
  refine r_aload_n C dX9_init_48 rfl ?_
  refine r_iconst (v := 0) C dX9_init_49 (by decide) ?_
  obtain ⟨h25, e26, hf0⟩ := ob hf0
  refine r_putI C fk_X9_31 dX9_init_50 e26 ?_
  refine r_aload_n C dX9_init_53 rfl ?_
  refine r_iconst (v := -1) C dX9_init_54 (by decide) ?_
  obtain ⟨h27, e28, hf0⟩ := ob hf0
  refine r_putI C fk_X9_34 dX9_init_55 e28 ?_
  refine r_aload_n C dX9_init_58 rfl ?_
  refine r_aload_n C dX9_init_59 rfl ?_
  obtain ⟨h29, e30, hf0⟩ := ob hf0
  refine r_putFR C fk_X9_37 ⟨_, _, rfl⟩ (Or.inl ⟨_, rfl⟩) hin dX9_init_60 e30 ?_
  obtain rfl := so hf0
  exact r_vret C dX9_init_63
def f_X9_begin_b25 (v0 : Nat) (v3 : Int32) (h : aH) : Option ((Int32 × aH) ⊕ (aH)) := (gR h 9 v0 0).bind fun t7 => (gI h 3 t7 5).bind fun t8 => if t8 ≤ v3 then some (.inr h) else (gR h 9 v0 1).bind fun t9 => (gR h 9 v0 0).bind fun t10 => (gR h 3 t10 2).bind fun t11 => (lI h t11 v3).bind fun t12 => (sI h t9 v3 t12).bind fun h13 => (gR h13 9 v0 2).bind fun t14 => (gR h13 9 v0 0).bind fun t15 => (gR h13 3 t15 1).bind fun t16 => (gR h13 9 v0 0).bind fun t17 => (gR h13 3 t17 2).bind fun t18 => (lI h13 t18 v3).bind fun t19 => (lI h13 t16 t19).bind fun t20 => (gR h13 9 v0 0).bind fun t21 => (gR h13 3 t21 4).bind fun t22 => (gI h13 1 t22 18).bind fun t23 => (sI h13 t14 v3 (t20 &&& t23)).bind fun h24 => (some (v3 + (1 : Int32))).bind fun t25 => some (.inl (t25, h24))
def f_X9_begin_l25 (v0 : Nat) (v3 : Int32) (h : aH) : Option (aH) := whileL wN (fun q : Int32 × aH => f_X9_begin_b25 v0 q.1 q.2) (v3, h)
def f_X9_begin (h : aH) (v0 : Nat) (v1 : Int32) (v2 : Int32) : Option (aH) := (pI h 9 v0 7 v1).bind fun h1 => (pI h1 9 v0 8 v2).bind fun h2 => (gR h2 9 v0 3).bind fun t3 => (gR h2 9 v0 0).bind fun t4 => (gI h2 3 t4 5).bind fun t5 => (sI h2 t3 (0 : Int32) t5).bind fun h6 => (f_X9_begin_l25 v0 (0 : Int32) h6).bind fun h26 => some h26
theorem s_X9_begin {h : aH} {v0 : Nat} {v1 : Int32} {v2 : Int32} {out : aH} (hf0 : f_X9_begin h v0 v1 v2 = some out) : EV 0 yX9_begin cX9_begin 4 none h [.ref v0, .int v1, .int v2] none out 0 0 := by
  refine EV.of (own := RX9) (lv0 := [(0, .ref v0), (1, .int v1), (2, .int v2)]) (by decide +kernel) rfl rfl (Nat.le_of_ble_eq_true rfl) ?_
  intro p l e s m args below meth c D cA B Hb C hin
  unfold f_X9_begin at hf0
  refine r_aload_n C dX9_begin_0 rfl ?_
  refine r_iload_n C dX9_begin_1 rfl ?_
  obtain ⟨h1, e2, hf0⟩ := ob hf0
  refine r_putI C fk_X9_31 dX9_begin_2 e2 ?_
  refine r_aload_n C dX9_begin_5 rfl ?_
  refine r_iload_n C dX9_begin_6 rfl ?_
  obtain ⟨h3, e4, hf0⟩ := ob hf0
  refine r_putI C fk_X9_34 dX9_begin_7 e4 ?_
  refine r_aload_n C dX9_begin_10 rfl ?_
  obtain ⟨t5, e6, hf0⟩ := ob hf0
  refine r_getR C fk_X9_18 rfl dX9_begin_11 e6 ?_
  refine r_iconst (v := 0) C dX9_begin_14 (by decide) ?_
  refine r_aload_n C dX9_begin_15 rfl ?_
  obtain ⟨t7, e8, hf0⟩ := ob hf0
  refine r_getR C fk_X9_37 rfl dX9_begin_16 e8 ?_
  obtain ⟨t9, e10, hf0⟩ := ob hf0
  refine r_getI C fk_X9_41 rfl dX9_begin_19 e10 ?_
  obtain ⟨h11, e12, hf0⟩ := ob hf0
  refine r_stI C dX9_begin_22 e12 ?_
  refine r_iconst (v := 0) C dX9_begin_23 (by decide) ?_
  refine r_istore_n (lv' := [(3, .int (0 : Int32)), (0, .ref v0), (1, .int v1), (2, .int v2)]) C dX9_begin_24 (by decide) rfl rfl ?_
  obtain ⟨y13, hl25, hf0⟩ := ob hf0
  have L25 : ∀ (n : Nat) (t14 : Int32) (h15 : aH), whileL n (fun q : Int32 × aH => f_X9_begin_b25 v0 q.1 q.2) (t14, h15) = some y13 → gW p l e (rmO 0 0 0) s m args below meth c (MQ below (eQ D cA B Hb out none) args s 0 0 (fun q => B ≤ q)) D cA B Hb 4 h15 25 [(0, .ref v0), (3, .int t14)] [] 0 0 := by
    intro n
    induction n with
    | zero => intro t14 h15 hz; cases hz
    | succ n ih25 =>
      intro t14 h15 hz
      obtain ⟨x25, hf1, hk25⟩ := wl hz
      replace hf1 : f_X9_begin_b25 v0 t14 h15 = some x25 := hf1
      unfold f_X9_begin_b25 at hf1
      refine r_iload_n C dX9_begin_25 rfl ?_
      refine r_aload_n C dX9_begin_26 rfl ?_
      obtain ⟨t16, e17, hf1⟩ := ob hf1
      refine r_getR C fk_X9_37 rfl dX9_begin_27 e17 ?_
      obtain ⟨t18, e19, hf1⟩ := ob hf1
      refine r_getI C fk_X9_41 rfl dX9_begin_30 e19 ?_
      refine r_icmp_ge (tgt := 91) C dX9_begin_33 (by decide) (fun c20 => ?_) (fun c20 => ?_)
      · rw [if_pos c20] at hf1
        obtain rfl := so hf1
        obtain rfl := so (show some h15 = some y13 from hk25)
        obtain rfl := so hf0
        exact r_vret C dX9_begin_91
      · rw [if_neg c20] at hf1
        refine r_aload_n C dX9_begin_36 rfl ?_
        obtain ⟨t21, e22, hf1⟩ := ob hf1
        refine r_getR C fk_X9_9 rfl dX9_begin_37 e22 ?_
        refine r_iload_n C dX9_begin_40 rfl ?_
        refine r_aload_n C dX9_begin_41 rfl ?_
        obtain ⟨t23, e24, hf1⟩ := ob hf1
        refine r_getR C fk_X9_37 rfl dX9_begin_42 e24 ?_
        obtain ⟨t25, e26, hf1⟩ := ob hf1
        refine r_getR C fk_X9_46 rfl dX9_begin_45 e26 ?_
        refine r_iload_n C dX9_begin_48 rfl ?_
        obtain ⟨t27, e28, hf1⟩ := ob hf1
        refine r_ldI C dX9_begin_49 e28 ?_
        obtain ⟨h29, e30, hf1⟩ := ob hf1
        refine r_stI C dX9_begin_50 e30 ?_
        refine r_aload_n C dX9_begin_51 rfl ?_
        obtain ⟨t31, e32, hf1⟩ := ob hf1
        refine r_getR C fk_X9_15 rfl dX9_begin_52 e32 ?_
        refine r_iload_n C dX9_begin_55 rfl ?_
        refine r_aload_n C dX9_begin_56 rfl ?_
        obtain ⟨t33, e34, hf1⟩ := ob hf1
        refine r_getR C fk_X9_37 rfl dX9_begin_57 e34 ?_
        obtain ⟨t35, e36, hf1⟩ := ob hf1
        refine r_getR C fk_X9_49 rfl dX9_begin_60 e36 ?_
        refine r_aload_n C dX9_begin_63 rfl ?_
        obtain ⟨t37, e38, hf1⟩ := ob hf1
        refine r_getR C fk_X9_37 rfl dX9_begin_64 e38 ?_
        obtain ⟨t39, e40, hf1⟩ := ob hf1
        refine r_getR C fk_X9_46 rfl dX9_begin_67 e40 ?_
        refine r_iload_n C dX9_begin_70 rfl ?_
        obtain ⟨t41, e42, hf1⟩ := ob hf1
        refine r_ldI C dX9_begin_71 e42 ?_
        obtain ⟨t43, e44, hf1⟩ := ob hf1
        refine r_ldI C dX9_begin_72 e44 ?_
        refine r_aload_n C dX9_begin_73 rfl ?_
        obtain ⟨t45, e46, hf1⟩ := ob hf1
        refine r_getR C fk_X9_37 rfl dX9_begin_74 e46 ?_
        obtain ⟨t47, e48, hf1⟩ := ob hf1
        refine r_getR C fk_X9_52 rfl dX9_begin_77 e48 ?_
        obtain ⟨t49, e50, hf1⟩ := ob hf1
        refine r_getI C fk_X9_56 rfl dX9_begin_80 e50 ?_
        refine r_iand C dX9_begin_83 ?_
        obtain ⟨h51, e52, hf1⟩ := ob hf1
        refine r_stI C dX9_begin_84 e52 ?_
        obtain ⟨t53, e54, hf1⟩ := ob hf1
        refine r_iinc (lv' := [(3, .int t53), (0, .ref v0)]) C dX9_begin_85 rfl e54 (by decide) rfl ?_
        refine r_goto (tgt := 25) C dX9_begin_88 (by decide) ?_
        obtain rfl := so hf1
        refine r_subk [1, 0] (lv' := [(0, .ref v0), (3, .int t53)]) rfl ?_
        exact ih25 t53 h51 hk25
  refine r_subk [1, 0] (lv' := [(0, .ref v0), (3, .int (0 : Int32))]) rfl ?_
  exact L25 wN (0 : Int32) h11 hl25
def f_X9_openBehind_j127 (h : aH) (v0 : Nat) (v1 : Int32) (v2 : Int32) (v3 : Int32) (v4 : Int32) (v5 : Nat) (v6 : Int32) (v7 : Int32) (v8 : Int32) (v9 : Int32) : Option ((Int32 × Int32 × Int32) ⊕ (Int32 × Int32)) := (some (v9 + (1 : Int32))).bind fun t4 => some (.inl (v7, v8, t4))
def f_X9_openBehind_j53 (h : aH) (v0 : Nat) (v1 : Int32) (v2 : Int32) (v3 : Int32) (v4 : Int32) (v5 : Nat) (v6 : Int32) (v7 : Int32) (v8 : Int32) (v9 : Int32) : Option ((Int32 × Int32 × Int32) ⊕ (Int32 × Int32)) := (gR h 9 v0 2).bind fun t5 => (lI h t5 v9).bind fun t6 => (some ((t6 >>> ((v2 * (4 : Int32)) &&& 31)) &&& (15 : Int32))).bind fun t7 => (gR h 9 v0 1).bind fun t8 => (lI h t8 v9).bind fun t9 => (ck h 1 v5).bind fun _ => (f_X1_packedAnswers h v5 v2 v3 t9).bind fun t10 => (f_X1_answersOf h t10 t7).bind fun t11 => (gI h 9 v0 7).bind fun t12 => (gR h 9 v0 1).bind fun t13 => (lI h t13 v9).bind fun t14 => (ck h 1 v5).bind fun _ => (f_X1_inQuestion h v5 t12 t14).bind fun t15 => if t15 = (1 : Int32) then (some (v7 ||| t11)).bind fun t17 => f_X9_openBehind_j127 h v0 v1 v2 v3 v4 v5 v6 t17 v8 v9 else (some (v8 ||| t11)).bind fun t16 => f_X9_openBehind_j127 h v0 v1 v2 v3 v4 v5 v6 v7 t16 v9
def f_X9_openBehind_b26 (h : aH) (v0 : Nat) (v1 : Int32) (v2 : Int32) (v3 : Int32) (v4 : Int32) (v5 : Nat) (v6 : Int32) (v7 : Int32) (v8 : Int32) (v9 : Int32) : Option ((Int32 × Int32 × Int32) ⊕ (Int32 × Int32)) := (gR h 9 v0 3).bind fun t18 => (lI h t18 v1).bind fun t19 => if (v6 + t19) ≤ v9 then some (.inr (v7, v8)) else if v4 = 0 then f_X9_openBehind_j53 h v0 v1 v2 v3 v4 v5 v6 v7 v8 v9 else if (v7 &&& v8) = 0 then f_X9_openBehind_j53 h v0 v1 v2 v3 v4 v5 v6 v7 v8 v9 else some (.inr (v7, v8))
def f_X9_openBehind_l26 (h : aH) (v0 : Nat) (v1 : Int32) (v2 : Int32) (v3 : Int32) (v4 : Int32) (v5 : Nat) (v6 : Int32) (v7 : Int32) (v8 : Int32) (v9 : Int32) : Option (Int32 × Int32) := whileL wN (fun q : Int32 × Int32 × Int32 => f_X9_openBehind_b26 h v0 v1 v2 v3 v4 v5 v6 q.1 q.2.1 q.2.2) (v7, v8, v9)
def f_X9_openBehind (h : aH) (v0 : Nat) (v1 : Int32) (v2 : Int32) (v3 : Int32) (v4 : Int32) : Option (Int32) := (gR h 9 v0 0).bind fun t1 => (gR h 3 t1 4).bind fun t2 => (some (v1 * (256 : Int32))).bind fun t3 => bd2 (f_X9_openBehind_l26 h v0 v1 v2 v3 v4 t2 t3 (0 : Int32) (0 : Int32) t3) fun t20 t21 => some (t20 &&& t21)
theorem s_X9_openBehind {h : aH} {v0 : Nat} {v1 : Int32} {v2 : Int32} {v3 : Int32} {v4 : Int32} {out : Int32} (hf0 : f_X9_openBehind h v0 v1 v2 v3 v4 = some out) : EV 1 yX9_openBehind cX9_openBehind 12 (some .int) h [.ref v0, .int v1, .int v2, .int v3, .int v4] (some (.int out)) h 0 0 := by
  refine EV.of (own := RX9) (lv0 := [(0, .ref v0), (1, .int v1), (2, .int v2), (3, .int v3), (4, .int v4)]) (by decide +kernel) rfl rfl (Nat.le_of_ble_eq_true rfl) ?_
  intro p l e s m args below meth c D cA B Hb C hin
  unfold f_X9_openBehind at hf0
  refine r_aload_n C dX9_openBehind_0 rfl ?_
  obtain ⟨t1, e2, hf0⟩ := ob hf0
  refine r_getR C fk_X9_37 rfl dX9_openBehind_1 e2 ?_
  obtain ⟨t3, e4, hf0⟩ := ob hf0
  refine r_getR C fk_X9_52 rfl dX9_openBehind_4 e4 ?_
  refine r_astore (lv' := [(5, .ref t3), (0, .ref v0), (1, .int v1), (2, .int v2), (3, .int v3), (4, .int v4)]) C dX9_openBehind_7 (by decide) rfl rfl ?_
  refine r_iload_n C dX9_openBehind_9 rfl ?_
  refine r_sipush (v := 256) C dX9_openBehind_10 (by decide) ?_
  refine r_imul C dX9_openBehind_13 ?_
  obtain ⟨t5, e6, hf0⟩ := ob hf0
  refine r_istore (lv' := [(6, .int t5), (5, .ref t3), (0, .ref v0), (1, .int v1), (2, .int v2), (3, .int v3), (4, .int v4)]) C dX9_openBehind_14 (by decide) e6 rfl ?_
  refine r_iconst (v := 0) C dX9_openBehind_16 (by decide) ?_
  refine r_istore (lv' := [(7, .int (0 : Int32)), (6, .int t5), (5, .ref t3), (0, .ref v0), (1, .int v1), (2, .int v2), (3, .int v3), (4, .int v4)]) C dX9_openBehind_17 (by decide) rfl rfl ?_
  refine r_iconst (v := 0) C dX9_openBehind_19 (by decide) ?_
  refine r_istore (lv' := [(8, .int (0 : Int32)), (7, .int (0 : Int32)), (6, .int t5), (5, .ref t3), (0, .ref v0), (1, .int v1), (2, .int v2), (3, .int v3), (4, .int v4)]) C dX9_openBehind_20 (by decide) rfl rfl ?_
  refine r_iload C dX9_openBehind_22 rfl ?_
  refine r_istore (lv' := [(9, .int t5), (8, .int (0 : Int32)), (7, .int (0 : Int32)), (6, .int t5), (5, .ref t3), (0, .ref v0), (1, .int v1), (2, .int v2), (3, .int v3), (4, .int v4)]) C dX9_openBehind_24 (by decide) rfl rfl ?_
  obtain ⟨y7, y8, hl26, hf0⟩ := ob2 hf0
  have L26 : ∀ (n : Nat) (t9 : Int32) (t10 : Int32) (t11 : Int32), whileL n (fun q : Int32 × Int32 × Int32 => f_X9_openBehind_b26 h v0 v1 v2 v3 v4 t3 t5 q.1 q.2.1 q.2.2) (t9, t10, t11) = some (y7, y8) → gW p l e (rmO 1 0 0) s m args below meth c (MQ below (eQ D cA B Hb h (some (.int out))) args s 0 0 (fun q => B ≤ q)) D cA B Hb 12 h 26 [(0, .ref v0), (1, .int v1), (2, .int v2), (3, .int v3), (4, .int v4), (5, .ref t3), (6, .int t5), (7, .int t9), (8, .int t10), (9, .int t11)] [] 0 0 := by
    intro n
    induction n with
    | zero => intro t9 t10 t11 hz; cases hz
    | succ n ih26 =>
      intro t9 t10 t11 hz
      obtain ⟨x26, hf1, hk26⟩ := wl hz
      replace hf1 : f_X9_openBehind_b26 h v0 v1 v2 v3 v4 t3 t5 t9 t10 t11 = some x26 := hf1
      unfold f_X9_openBehind_b26 at hf1
      have J127 : ∀ (t12 : Int32) (t13 : Int32) (t14 : Int32), f_X9_openBehind_j127 h v0 v1 v2 v3 v4 t3 t5 t12 t13 t14 = some x26 → gW p l e (rmO 1 0 0) s m args below meth c (MQ below (eQ D cA B Hb h (some (.int out))) args s 0 0 (fun q => B ≤ q)) D cA B Hb 12 h 127 [(0, .ref v0), (1, .int v1), (2, .int v2), (3, .int v3), (4, .int v4), (5, .ref t3), (6, .int t5), (7, .int t12), (8, .int t13), (9, .int t14)] [] 0 0 := by
        intro t12 t13 t14 hf1
        unfold f_X9_openBehind_j127 at hf1
        obtain ⟨t15, e16, hf1⟩ := ob hf1
        refine r_iinc (lv' := [(9, .int t15), (0, .ref v0), (1, .int v1), (2, .int v2), (3, .int v3), (4, .int v4), (5, .ref t3), (6, .int t5), (7, .int t12), (8, .int t13)]) C dX9_openBehind_127 rfl e16 (by decide) rfl ?_
        refine r_goto (tgt := 26) C dX9_openBehind_130 (by decide) ?_
        obtain rfl := so hf1
        refine r_subk [1, 2, 3, 4, 5, 6, 7, 8, 9, 0] (lv' := [(0, .ref v0), (1, .int v1), (2, .int v2), (3, .int v3), (4, .int v4), (5, .ref t3), (6, .int t5), (7, .int t12), (8, .int t13), (9, .int t15)]) rfl ?_
        exact ih26 t12 t13 t15 hk26
      have J53 : ∀ (t17 : Int32) (t18 : Int32) (t19 : Int32), f_X9_openBehind_j53 h v0 v1 v2 v3 v4 t3 t5 t17 t18 t19 = some x26 → gW p l e (rmO 1 0 0) s m args below meth c (MQ below (eQ D cA B Hb h (some (.int out))) args s 0 0 (fun q => B ≤ q)) D cA B Hb 12 h 53 [(0, .ref v0), (1, .int v1), (2, .int v2), (3, .int v3), (4, .int v4), (5, .ref t3), (6, .int t5), (7, .int t17), (8, .int t18), (9, .int t19)] [] 0 0 := by
        intro t17 t18 t19 hf1
        unfold f_X9_openBehind_j53 at hf1
        refine r_aload_n C dX9_openBehind_53 rfl ?_
        obtain ⟨t20, e21, hf1⟩ := ob hf1
        refine r_getR C fk_X9_15 rfl dX9_openBehind_54 e21 ?_
        refine r_iload C dX9_openBehind_57 rfl ?_
        obtain ⟨t22, e23, hf1⟩ := ob hf1
        refine r_ldI C dX9_openBehind_59 e23 ?_
        refine r_iload_n C dX9_openBehind_60 rfl ?_
        refine r_iconst (v := 4) C dX9_openBehind_61 (by decide) ?_
        refine r_imul C dX9_openBehind_62 ?_
        refine r_ishr C dX9_openBehind_63 ?_
        refine r_bipush (v := 15) C dX9_openBehind_64 (by decide) ?_
        refine r_iand C dX9_openBehind_66 ?_
        obtain ⟨t24, e25, hf1⟩ := ob hf1
        refine r_istore (lv' := [(10, .int t24), (0, .ref v0), (1, .int v1), (2, .int v2), (3, .int v3), (4, .int v4), (5, .ref t3), (6, .int t5), (7, .int t17), (8, .int t18), (9, .int t19)]) C dX9_openBehind_67 (by decide) e25 rfl ?_
        refine r_aload C dX9_openBehind_69 rfl ?_
        refine r_iload_n C dX9_openBehind_71 rfl ?_
        refine r_iload_n C dX9_openBehind_72 rfl ?_
        refine r_aload_n C dX9_openBehind_73 rfl ?_
        obtain ⟨t26, e27, hf1⟩ := ob hf1
        refine r_getR C fk_X9_9 rfl dX9_openBehind_74 e27 ?_
        refine r_iload C dX9_openBehind_77 rfl ?_
        obtain ⟨t28, e29, hf1⟩ := ob hf1
        refine r_ldI C dX9_openBehind_79 e29 ?_
        obtain ⟨u31, e30, hf1⟩ := ob hf1
        obtain ⟨t32, e33, hf1⟩ := ob hf1
        refine r_cV (ci := 1) (rest := []) (st2 := [.int t32]) C (s_X1_packedAnswers e33) mk_X1_packedAnswers rfl (ck_k e30) (by decide) im_X1_packedAnswers sl_X1_packedAnswers lk_X9_83 rfl rfl rfl dX9_openBehind_80 (Nat.le_of_ble_eq_true rfl) ⟨Nat.le_of_ble_eq_true rfl, Nat.le_of_ble_eq_true rfl⟩ ⟨Nat.le_of_ble_eq_true rfl, Nat.le_of_ble_eq_true rfl⟩ ?_
        refine r_iload C dX9_openBehind_83 rfl ?_
        obtain ⟨t34, e35, hf1⟩ := ob hf1
        refine r_cS (rest := []) (st2 := [.int t34]) C (s_X1_answersOf e35) mk_X1_answersOf sm_X1_answersOf lk_X9_86 rfl rfl rfl dX9_openBehind_85 (Nat.le_of_ble_eq_true rfl) ⟨Nat.le_of_ble_eq_true rfl, Nat.le_of_ble_eq_true rfl⟩ ⟨Nat.le_of_ble_eq_true rfl, Nat.le_of_ble_eq_true rfl⟩ ?_
        refine r_istore (lv' := [(11, .int t34), (10, .int t24), (0, .ref v0), (1, .int v1), (2, .int v2), (3, .int v3), (4, .int v4), (5, .ref t3), (6, .int t5), (7, .int t17), (8, .int t18), (9, .int t19)]) C dX9_openBehind_88 (by decide) rfl rfl ?_
        refine r_aload C dX9_openBehind_90 rfl ?_
        refine r_aload_n C dX9_openBehind_92 rfl ?_
        obtain ⟨t36, e37, hf1⟩ := ob hf1
        refine r_getI C fk_X9_31 rfl dX9_openBehind_93 e37 ?_
        refine r_aload_n C dX9_openBehind_96 rfl ?_
        obtain ⟨t38, e39, hf1⟩ := ob hf1
        refine r_getR C fk_X9_9 rfl dX9_openBehind_97 e39 ?_
        refine r_iload C dX9_openBehind_100 rfl ?_
        obtain ⟨t40, e41, hf1⟩ := ob hf1
        refine r_ldI C dX9_openBehind_102 e41 ?_
        obtain ⟨u43, e42, hf1⟩ := ob hf1
        obtain ⟨t44, e45, hf1⟩ := ob hf1
        refine r_cV (ci := 1) (rest := []) (st2 := [.int t44]) C (s_X1_inQuestion e45) mk_X1_inQuestion rfl (ck_k e42) (by decide) im_X1_inQuestion sl_X1_inQuestion lk_X9_90 rfl rfl rfl dX9_openBehind_103 (Nat.le_of_ble_eq_true rfl) ⟨Nat.le_of_ble_eq_true rfl, Nat.le_of_ble_eq_true rfl⟩ ⟨Nat.le_of_ble_eq_true rfl, Nat.le_of_ble_eq_true rfl⟩ ?_
        refine r_iconst (v := 1) C dX9_openBehind_106 (by decide) ?_
        refine r_icmp_ne (tgt := 120) C dX9_openBehind_107 (by decide) (fun c46 => ?_) (fun c46 => ?_)
        · rw [if_neg c46] at hf1
          refine r_iload C dX9_openBehind_120 rfl ?_
          refine r_iload C dX9_openBehind_122 rfl ?_
          refine r_ior C dX9_openBehind_124 ?_
          obtain ⟨t47, e48, hf1⟩ := ob hf1
          refine r_istore (lv' := [(8, .int t47), (11, .int t34), (10, .int t24), (0, .ref v0), (1, .int v1), (2, .int v2), (3, .int v3), (4, .int v4), (5, .ref t3), (6, .int t5), (7, .int t17), (9, .int t19)]) C dX9_openBehind_125 (by decide) e48 rfl ?_
          refine r_subk [3, 4, 5, 6, 7, 8, 9, 10, 0, 11] (lv' := [(0, .ref v0), (1, .int v1), (2, .int v2), (3, .int v3), (4, .int v4), (5, .ref t3), (6, .int t5), (7, .int t17), (8, .int t47), (9, .int t19)]) rfl ?_
          exact J127 t17 t47 t19 hf1
        · rw [if_pos c46] at hf1
          refine r_iload C dX9_openBehind_110 rfl ?_
          refine r_iload C dX9_openBehind_112 rfl ?_
          refine r_ior C dX9_openBehind_114 ?_
          obtain ⟨t49, e50, hf1⟩ := ob hf1
          refine r_istore (lv' := [(7, .int t49), (11, .int t34), (10, .int t24), (0, .ref v0), (1, .int v1), (2, .int v2), (3, .int v3), (4, .int v4), (5, .ref t3), (6, .int t5), (8, .int t18), (9, .int t19)]) C dX9_openBehind_115 (by decide) e50 rfl ?_
          refine r_goto (tgt := 127) C dX9_openBehind_117 (by decide) ?_
          refine r_subk [3, 4, 5, 6, 7, 8, 9, 0, 10, 11] (lv' := [(0, .ref v0), (1, .int v1), (2, .int v2), (3, .int v3), (4, .int v4), (5, .ref t3), (6, .int t5), (7, .int t49), (8, .int t18), (9, .int t19)]) rfl ?_
          exact J127 t49 t18 t19 hf1
      refine r_iload C dX9_openBehind_26 rfl ?_
      refine r_iload C dX9_openBehind_28 rfl ?_
      refine r_aload_n C dX9_openBehind_30 rfl ?_
      obtain ⟨t51, e52, hf1⟩ := ob hf1
      refine r_getR C fk_X9_18 rfl dX9_openBehind_31 e52 ?_
      refine r_iload_n C dX9_openBehind_34 rfl ?_
      obtain ⟨t53, e54, hf1⟩ := ob hf1
      refine r_ldI C dX9_openBehind_35 e54 ?_
      refine r_iadd C dX9_openBehind_36 ?_
      refine r_icmp_ge (tgt := 133) C dX9_openBehind_37 (by decide) (fun c55 => ?_) (fun c55 => ?_)
      · rw [if_pos c55] at hf1
        obtain rfl := so hf1
        obtain ⟨rfl, rfl⟩ := so2 (show some (t9, t10) = some (y7, y8) from hk26)
        refine r_iload C dX9_openBehind_133 rfl ?_
        refine r_iload C dX9_openBehind_135 rfl ?_
        refine r_iand C dX9_openBehind_137 ?_
        obtain rfl := so hf0
        exact r_iret C dX9_openBehind_138
      · rw [if_neg c55] at hf1
        refine r_iload C dX9_openBehind_40 rfl ?_
        refine r_ifeq (tgt := 53) C dX9_openBehind_42 (by decide) (fun c56 => ?_) (fun c56 => ?_)
        · rw [if_pos c56] at hf1
          exact J53 t9 t10 t11 hf1
        · rw [if_neg c56] at hf1
          refine r_iload C dX9_openBehind_45 rfl ?_
          refine r_iload C dX9_openBehind_47 rfl ?_
          refine r_iand C dX9_openBehind_49 ?_
          refine r_ifne (tgt := 133) C dX9_openBehind_50 (by decide) (fun c57 => ?_) (fun c57 => ?_)
          · rw [if_neg c57] at hf1
            obtain rfl := so hf1
            obtain ⟨rfl, rfl⟩ := so2 (show some (t9, t10) = some (y7, y8) from hk26)
            refine r_iload C dX9_openBehind_133 rfl ?_
            refine r_iload C dX9_openBehind_135 rfl ?_
            refine r_iand C dX9_openBehind_137 ?_
            obtain rfl := so hf0
            exact r_iret C dX9_openBehind_138
          · rw [if_pos c57] at hf1
            exact J53 t9 t10 t11 hf1
  refine r_subk [5, 6, 7, 8, 9, 4, 3, 2, 1, 0] (lv' := [(0, .ref v0), (1, .int v1), (2, .int v2), (3, .int v3), (4, .int v4), (5, .ref t3), (6, .int t5), (7, .int (0 : Int32)), (8, .int (0 : Int32)), (9, .int t5)]) rfl ?_
  exact L26 wN (0 : Int32) (0 : Int32) t5 hl26
def f_X9_descend_j145 (h : aH) (v0 : Nat) (v1 : Int32) (v2 : Int32) (v3 : Int32) (v4 : Int32) (v5 : Int32) (v6 : Int32) (v7 : Int32) (v8 : Int32) (v9 : Int32) : Option ((Int32 × Int32 × aH) ⊕ (Int32 × aH)) := (some (v9 + (1 : Int32))).bind fun t4 => some (.inl (v8, t4, h))
def f_X9_descend_b27 (v0 : Nat) (v1 : Int32) (v2 : Int32) (v3 : Int32) (v4 : Int32) (v5 : Int32) (v6 : Int32) (v7 : Int32) (v8 : Int32) (v9 : Int32) (h : aH) : Option ((Int32 × Int32 × aH) ⊕ (Int32 × aH)) := (gR h 9 v0 3).bind fun t5 => (lI h t5 v1).bind fun t6 => if (v5 + t6) ≤ v9 then some (.inr (v8, h)) else (gR h 9 v0 2).bind fun t7 => (lI h t7 v9).bind fun t8 => (some ((t8 >>> (v7 &&& 31)) &&& (15 : Int32))).bind fun t9 => (gR h 9 v0 0).bind fun t10 => (gR h 3 t10 4).bind fun t11 => (gR h 9 v0 1).bind fun t12 => (lI h t12 v9).bind fun t13 => (ck h 1 t11).bind fun _ => (f_X1_packedAnswers h t11 v2 v3 t13).bind fun t14 => (f_X1_kindsAnswering h t14 v4).bind fun t15 => (some (t9 &&& t15)).bind fun t16 => if t16 = 0 then f_X9_descend_j145 h v0 v1 v2 v3 v4 v5 v6 v7 v8 v9 else (gR h 9 v0 1).bind fun t17 => (gR h 9 v0 1).bind fun t18 => (lI h t18 v9).bind fun t19 => (sI h t17 (v6 + v8) t19).bind fun h20 => (gR h20 9 v0 2).bind fun t21 => (gR h20 9 v0 2).bind fun t22 => (lI h20 t22 v9).bind fun t23 => (sI h20 t21 (v6 + v8) ((t23 &&& (((15 : Int32) <<< (v7 &&& 31)) ^^^ (-1 : Int32))) ||| (t16 <<< (v7 &&& 31)))).bind fun h24 => (some (v8 + (1 : Int32))).bind fun t25 => f_X9_descend_j145 h24 v0 v1 v2 v3 v4 v5 v6 v7 t25 v9
def f_X9_descend_l27 (v0 : Nat) (v1 : Int32) (v2 : Int32) (v3 : Int32) (v4 : Int32) (v5 : Int32) (v6 : Int32) (v7 : Int32) (v8 : Int32) (v9 : Int32) (h : aH) : Option (Int32 × aH) := whileL wN (fun q : Int32 × Int32 × aH => f_X9_descend_b27 v0 v1 v2 v3 v4 v5 v6 v7 q.1 q.2.1 q.2.2) (v8, v9, h)
def f_X9_descend (h : aH) (v0 : Nat) (v1 : Int32) (v2 : Int32) (v3 : Int32) (v4 : Int32) : Option (aH) := (some (v1 * (256 : Int32))).bind fun t1 => (some (t1 + (256 : Int32))).bind fun t2 => (some (v2 * (4 : Int32))).bind fun t3 => bd2 (f_X9_descend_l27 v0 v1 v2 v3 v4 t1 t2 t3 (0 : Int32) t1 h) fun t26 h27 => (gR h27 9 v0 3).bind fun t28 => (sI h27 t28 (v1 + (1 : Int32)) t26).bind fun h29 => some h29
theorem s_X9_descend {h : aH} {v0 : Nat} {v1 : Int32} {v2 : Int32} {v3 : Int32} {v4 : Int32} {out : aH} (hf0 : f_X9_descend h v0 v1 v2 v3 v4 = some out) : EV 1 yX9_descend cX9_descend 13 none h [.ref v0, .int v1, .int v2, .int v3, .int v4] none out 0 0 := by
  refine EV.of (own := RX9) (lv0 := [(0, .ref v0), (1, .int v1), (2, .int v2), (3, .int v3), (4, .int v4)]) (by decide +kernel) rfl rfl (Nat.le_of_ble_eq_true rfl) ?_
  intro p l e s m args below meth c D cA B Hb C hin
  unfold f_X9_descend at hf0
  refine r_iload_n C dX9_descend_0 rfl ?_
  refine r_sipush (v := 256) C dX9_descend_1 (by decide) ?_
  refine r_imul C dX9_descend_4 ?_
  obtain ⟨t1, e2, hf0⟩ := ob hf0
  refine r_istore (lv' := [(5, .int t1), (0, .ref v0), (1, .int v1), (2, .int v2), (3, .int v3), (4, .int v4)]) C dX9_descend_5 (by decide) e2 rfl ?_
  refine r_iload C dX9_descend_7 rfl ?_
  refine r_sipush (v := 256) C dX9_descend_9 (by decide) ?_
  refine r_iadd C dX9_descend_12 ?_
  obtain ⟨t3, e4, hf0⟩ := ob hf0
  refine r_istore (lv' := [(6, .int t3), (5, .int t1), (0, .ref v0), (1, .int v1), (2, .int v2), (3, .int v3), (4, .int v4)]) C dX9_descend_13 (by decide) e4 rfl ?_
  refine r_iload_n C dX9_descend_15 rfl ?_
  refine r_iconst (v := 4) C dX9_descend_16 (by decide) ?_
  refine r_imul C dX9_descend_17 ?_
  obtain ⟨t5, e6, hf0⟩ := ob hf0
  refine r_istore (lv' := [(7, .int t5), (6, .int t3), (5, .int t1), (0, .ref v0), (1, .int v1), (2, .int v2), (3, .int v3), (4, .int v4)]) C dX9_descend_18 (by decide) e6 rfl ?_
  refine r_iconst (v := 0) C dX9_descend_20 (by decide) ?_
  refine r_istore (lv' := [(8, .int (0 : Int32)), (7, .int t5), (6, .int t3), (5, .int t1), (0, .ref v0), (1, .int v1), (2, .int v2), (3, .int v3), (4, .int v4)]) C dX9_descend_21 (by decide) rfl rfl ?_
  refine r_iload C dX9_descend_23 rfl ?_
  refine r_istore (lv' := [(9, .int t1), (8, .int (0 : Int32)), (7, .int t5), (6, .int t3), (5, .int t1), (0, .ref v0), (1, .int v1), (2, .int v2), (3, .int v3), (4, .int v4)]) C dX9_descend_25 (by decide) rfl rfl ?_
  obtain ⟨y7, y8, hl27, hf0⟩ := ob2 hf0
  have L27 : ∀ (n : Nat) (t9 : Int32) (t10 : Int32) (h11 : aH), whileL n (fun q : Int32 × Int32 × aH => f_X9_descend_b27 v0 v1 v2 v3 v4 t1 t3 t5 q.1 q.2.1 q.2.2) (t9, t10, h11) = some (y7, y8) → gW p l e (rmO 1 0 0) s m args below meth c (MQ below (eQ D cA B Hb out none) args s 0 0 (fun q => B ≤ q)) D cA B Hb 13 h11 27 [(0, .ref v0), (1, .int v1), (2, .int v2), (3, .int v3), (4, .int v4), (5, .int t1), (6, .int t3), (7, .int t5), (8, .int t9), (9, .int t10)] [] 0 0 := by
    intro n
    induction n with
    | zero => intro t9 t10 h11 hz; cases hz
    | succ n ih27 =>
      intro t9 t10 h11 hz
      obtain ⟨x27, hf1, hk27⟩ := wl hz
      replace hf1 : f_X9_descend_b27 v0 v1 v2 v3 v4 t1 t3 t5 t9 t10 h11 = some x27 := hf1
      unfold f_X9_descend_b27 at hf1
      have J145 : ∀ (h12 : aH) (t13 : Int32) (t14 : Int32), f_X9_descend_j145 h12 v0 v1 v2 v3 v4 t1 t3 t5 t13 t14 = some x27 → gW p l e (rmO 1 0 0) s m args below meth c (MQ below (eQ D cA B Hb out none) args s 0 0 (fun q => B ≤ q)) D cA B Hb 13 h12 145 [(0, .ref v0), (1, .int v1), (2, .int v2), (3, .int v3), (4, .int v4), (5, .int t1), (6, .int t3), (7, .int t5), (8, .int t13), (9, .int t14)] [] 0 0 := by
        intro h12 t13 t14 hf1
        unfold f_X9_descend_j145 at hf1
        obtain ⟨t15, e16, hf1⟩ := ob hf1
        refine r_iinc (lv' := [(9, .int t15), (0, .ref v0), (1, .int v1), (2, .int v2), (3, .int v3), (4, .int v4), (5, .int t1), (6, .int t3), (7, .int t5), (8, .int t13)]) C dX9_descend_145 rfl e16 (by decide) rfl ?_
        refine r_goto (tgt := 27) C dX9_descend_148 (by decide) ?_
        obtain rfl := so hf1
        refine r_subk [1, 2, 3, 4, 5, 6, 7, 8, 9, 0] (lv' := [(0, .ref v0), (1, .int v1), (2, .int v2), (3, .int v3), (4, .int v4), (5, .int t1), (6, .int t3), (7, .int t5), (8, .int t13), (9, .int t15)]) rfl ?_
        exact ih27 t13 t15 h12 hk27
      refine r_iload C dX9_descend_27 rfl ?_
      refine r_iload C dX9_descend_29 rfl ?_
      refine r_aload_n C dX9_descend_31 rfl ?_
      obtain ⟨t17, e18, hf1⟩ := ob hf1
      refine r_getR C fk_X9_18 rfl dX9_descend_32 e18 ?_
      refine r_iload_n C dX9_descend_35 rfl ?_
      obtain ⟨t19, e20, hf1⟩ := ob hf1
      refine r_ldI C dX9_descend_36 e20 ?_
      refine r_iadd C dX9_descend_37 ?_
      refine r_icmp_ge (tgt := 151) C dX9_descend_38 (by decide) (fun c21 => ?_) (fun c21 => ?_)
      · rw [if_pos c21] at hf1
        obtain rfl := so hf1
        obtain ⟨rfl, rfl⟩ := so2 (show some (t9, h11) = some (y7, y8) from hk27)
        refine r_aload_n C dX9_descend_151 rfl ?_
        obtain ⟨t22, e23, hf0⟩ := ob hf0
        refine r_getR C fk_X9_18 rfl dX9_descend_152 e23 ?_
        refine r_iload_n C dX9_descend_155 rfl ?_
        refine r_iconst (v := 1) C dX9_descend_156 (by decide) ?_
        refine r_iadd C dX9_descend_157 ?_
        refine r_iload C dX9_descend_158 rfl ?_
        obtain ⟨h24, e25, hf0⟩ := ob hf0
        refine r_stI C dX9_descend_160 e25 ?_
        obtain rfl := so hf0
        exact r_vret C dX9_descend_161
      · rw [if_neg c21] at hf1
        refine r_aload_n C dX9_descend_41 rfl ?_
        obtain ⟨t26, e27, hf1⟩ := ob hf1
        refine r_getR C fk_X9_15 rfl dX9_descend_42 e27 ?_
        refine r_iload C dX9_descend_45 rfl ?_
        obtain ⟨t28, e29, hf1⟩ := ob hf1
        refine r_ldI C dX9_descend_47 e29 ?_
        refine r_iload C dX9_descend_48 rfl ?_
        refine r_ishr C dX9_descend_50 ?_
        refine r_bipush (v := 15) C dX9_descend_51 (by decide) ?_
        refine r_iand C dX9_descend_53 ?_
        obtain ⟨t30, e31, hf1⟩ := ob hf1
        refine r_istore (lv' := [(10, .int t30), (0, .ref v0), (1, .int v1), (2, .int v2), (3, .int v3), (4, .int v4), (5, .int t1), (6, .int t3), (7, .int t5), (8, .int t9), (9, .int t10)]) C dX9_descend_54 (by decide) e31 rfl ?_
        refine r_aload_n C dX9_descend_56 rfl ?_
        obtain ⟨t32, e33, hf1⟩ := ob hf1
        refine r_getR C fk_X9_37 rfl dX9_descend_57 e33 ?_
        obtain ⟨t34, e35, hf1⟩ := ob hf1
        refine r_getR C fk_X9_52 rfl dX9_descend_60 e35 ?_
        refine r_iload_n C dX9_descend_63 rfl ?_
        refine r_iload_n C dX9_descend_64 rfl ?_
        refine r_aload_n C dX9_descend_65 rfl ?_
        obtain ⟨t36, e37, hf1⟩ := ob hf1
        refine r_getR C fk_X9_9 rfl dX9_descend_66 e37 ?_
        refine r_iload C dX9_descend_69 rfl ?_
        obtain ⟨t38, e39, hf1⟩ := ob hf1
        refine r_ldI C dX9_descend_71 e39 ?_
        obtain ⟨u41, e40, hf1⟩ := ob hf1
        obtain ⟨t42, e43, hf1⟩ := ob hf1
        refine r_cV (ci := 1) (rest := []) (st2 := [.int t42]) C (s_X1_packedAnswers e43) mk_X1_packedAnswers rfl (ck_k e40) (by decide) im_X1_packedAnswers sl_X1_packedAnswers lk_X9_83 rfl rfl rfl dX9_descend_72 (Nat.le_of_ble_eq_true rfl) ⟨Nat.le_of_ble_eq_true rfl, Nat.le_of_ble_eq_true rfl⟩ ⟨Nat.le_of_ble_eq_true rfl, Nat.le_of_ble_eq_true rfl⟩ ?_
        refine r_istore (lv' := [(11, .int t42), (10, .int t30), (0, .ref v0), (1, .int v1), (2, .int v2), (3, .int v3), (4, .int v4), (5, .int t1), (6, .int t3), (7, .int t5), (8, .int t9), (9, .int t10)]) C dX9_descend_75 (by decide) rfl rfl ?_
        refine r_iload C dX9_descend_77 rfl ?_
        refine r_iload C dX9_descend_79 rfl ?_
        refine r_iload C dX9_descend_81 rfl ?_
        obtain ⟨t44, e45, hf1⟩ := ob hf1
        refine r_cS (rest := [.int t30]) (st2 := [.int t44, .int t30]) C (s_X1_kindsAnswering e45) mk_X1_kindsAnswering sm_X1_kindsAnswering lk_X9_93 rfl rfl rfl dX9_descend_83 (Nat.le_of_ble_eq_true rfl) ⟨Nat.le_of_ble_eq_true rfl, Nat.le_of_ble_eq_true rfl⟩ ⟨Nat.le_of_ble_eq_true rfl, Nat.le_of_ble_eq_true rfl⟩ ?_
        refine r_iand C dX9_descend_86 ?_
        obtain ⟨t46, e47, hf1⟩ := ob hf1
        refine r_istore (lv' := [(12, .int t46), (11, .int t42), (10, .int t30), (0, .ref v0), (1, .int v1), (2, .int v2), (3, .int v3), (4, .int v4), (5, .int t1), (6, .int t3), (7, .int t5), (8, .int t9), (9, .int t10)]) C dX9_descend_87 (by decide) e47 rfl ?_
        refine r_iload C dX9_descend_89 rfl ?_
        refine r_ifeq (tgt := 145) C dX9_descend_91 (by decide) (fun c48 => ?_) (fun c48 => ?_)
        · rw [if_pos c48] at hf1
          refine r_subk [3, 4, 5, 6, 7, 8, 9, 10, 11, 12] (lv' := [(0, .ref v0), (1, .int v1), (2, .int v2), (3, .int v3), (4, .int v4), (5, .int t1), (6, .int t3), (7, .int t5), (8, .int t9), (9, .int t10)]) rfl ?_
          exact J145 h11 t9 t10 hf1
        · rw [if_neg c48] at hf1
          refine r_aload_n C dX9_descend_94 rfl ?_
          obtain ⟨t49, e50, hf1⟩ := ob hf1
          refine r_getR C fk_X9_9 rfl dX9_descend_95 e50 ?_
          refine r_iload C dX9_descend_98 rfl ?_
          refine r_iload C dX9_descend_100 rfl ?_
          refine r_iadd C dX9_descend_102 ?_
          refine r_aload_n C dX9_descend_103 rfl ?_
          obtain ⟨t51, e52, hf1⟩ := ob hf1
          refine r_getR C fk_X9_9 rfl dX9_descend_104 e52 ?_
          refine r_iload C dX9_descend_107 rfl ?_
          obtain ⟨t53, e54, hf1⟩ := ob hf1
          refine r_ldI C dX9_descend_109 e54 ?_
          obtain ⟨h55, e56, hf1⟩ := ob hf1
          refine r_stI C dX9_descend_110 e56 ?_
          refine r_aload_n C dX9_descend_111 rfl ?_
          obtain ⟨t57, e58, hf1⟩ := ob hf1
          refine r_getR C fk_X9_15 rfl dX9_descend_112 e58 ?_
          refine r_iload C dX9_descend_115 rfl ?_
          refine r_iload C dX9_descend_117 rfl ?_
          refine r_iadd C dX9_descend_119 ?_
          refine r_aload_n C dX9_descend_120 rfl ?_
          obtain ⟨t59, e60, hf1⟩ := ob hf1
          refine r_getR C fk_X9_15 rfl dX9_descend_121 e60 ?_
          refine r_iload C dX9_descend_124 rfl ?_
          obtain ⟨t61, e62, hf1⟩ := ob hf1
          refine r_ldI C dX9_descend_126 e62 ?_
          refine r_bipush (v := 15) C dX9_descend_127 (by decide) ?_
          refine r_iload C dX9_descend_129 rfl ?_
          refine r_ishl C dX9_descend_131 ?_
          refine r_iconst (v := -1) C dX9_descend_132 (by decide) ?_
          refine r_ixor C dX9_descend_133 ?_
          refine r_iand C dX9_descend_134 ?_
          refine r_iload C dX9_descend_135 rfl ?_
          refine r_iload C dX9_descend_137 rfl ?_
          refine r_ishl C dX9_descend_139 ?_
          refine r_ior C dX9_descend_140 ?_
          obtain ⟨h63, e64, hf1⟩ := ob hf1
          refine r_stI C dX9_descend_141 e64 ?_
          obtain ⟨t65, e66, hf1⟩ := ob hf1
          refine r_iinc (lv' := [(8, .int t65), (12, .int t46), (11, .int t42), (10, .int t30), (0, .ref v0), (1, .int v1), (2, .int v2), (3, .int v3), (4, .int v4), (5, .int t1), (6, .int t3), (7, .int t5), (9, .int t10)]) C dX9_descend_142 rfl e66 (by decide) rfl ?_
          refine r_subk [4, 5, 6, 7, 8, 9, 10, 11, 0, 12] (lv' := [(0, .ref v0), (1, .int v1), (2, .int v2), (3, .int v3), (4, .int v4), (5, .int t1), (6, .int t3), (7, .int t5), (8, .int t65), (9, .int t10)]) rfl ?_
          exact J145 h63 t65 t10 hf1
  refine r_subk [5, 6, 7, 8, 9, 4, 3, 2, 1, 0] (lv' := [(0, .ref v0), (1, .int v1), (2, .int v2), (3, .int v3), (4, .int v4), (5, .int t1), (6, .int t3), (7, .int t5), (8, .int (0 : Int32)), (9, .int t1)]) rfl ?_
  exact L27 wN (0 : Int32) t1 h hl27
def f_X9_settles_j102 (g_X9_firstOf : aH → Nat → Int32 → Int32 → Int32 → Option (Int32 × aH)) (h : aH) (v0 : Nat) (v1 : Int32) (v2 : Int32) (v3 : Int32) (v4 : Int32) (v5 : Int32) (v6 : Int32) (v7 : Int32) : Option ((Int32 × aH) ⊕ ((aH) ⊕ (aH))) := (some (v7 + (1 : Int32))).bind fun t2 => some (.inl (t2, h))
def f_X9_settles_b45 (g_X9_firstOf : aH → Nat → Int32 → Int32 → Int32 → Option (Int32 × aH)) (v0 : Nat) (v1 : Int32) (v2 : Int32) (v3 : Int32) (v4 : Int32) (v5 : Int32) (v6 : Int32) (v7 : Int32) (h : aH) : Option ((Int32 × aH) ⊕ ((aH) ⊕ (aH))) := if (24 : Int32) ≤ v7 then some (.inr (.inr h)) else if (v6 >>> (v7 &&& 31)) = 0 then some (.inr (.inr h)) else if ((v6 >>> (v7 &&& 31)) &&& (1 : Int32)) = 0 then f_X9_settles_j102 g_X9_firstOf h v0 v1 v2 v3 v4 v5 v6 v7 else (ck h 9 v0).bind fun _ => (f_X9_descend h v0 v1 v2 v3 v7).bind fun h3 => (ck h3 9 v0).bind fun _ => bd2 (g_X9_firstOf h3 v0 (v1 + (1 : Int32)) (v4 - (1 : Int32)) (v5 ||| ((1 : Int32) <<< (v3 &&& 31)))) fun t4 h5 => if t4 = (-1 : Int32) then some (.inr (.inl h5)) else f_X9_settles_j102 g_X9_firstOf h5 v0 v1 v2 v3 v4 v5 v6 v7
def f_X9_settles_l45 (g_X9_firstOf : aH → Nat → Int32 → Int32 → Int32 → Option (Int32 × aH)) (v0 : Nat) (v1 : Int32) (v2 : Int32) (v3 : Int32) (v4 : Int32) (v5 : Int32) (v6 : Int32) (v7 : Int32) (h : aH) : Option ((aH) ⊕ (aH)) := whileL wN (fun q : Int32 × aH => f_X9_settles_b45 g_X9_firstOf v0 v1 v2 v3 v4 v5 v6 q.1 q.2) (v7, h)
def f_X9_settles_j15 (g_X9_firstOf : aH → Nat → Int32 → Int32 → Int32 → Option (Int32 × aH)) (h : aH) (v0 : Nat) (v1 : Int32) (v2 : Int32) (v3 : Int32) (v4 : Int32) (v5 : Int32) (s0 : Nat) (s1 : Int32) (s2 : Int32) (s3 : Int32) (s4 : Int32) : Option (Int32 × aH) := (ck h 9 s0).bind fun _ => (f_X9_openBehind h s0 s1 s2 s3 s4).bind fun t1 => if t1 = 0 then some ((1 : Int32), h) else if v4 = (1 : Int32) then some ((0 : Int32), h) else if (v1 + (1 : Int32)) < (3 : Int32) then (f_X9_settles_l45 g_X9_firstOf v0 v1 v2 v3 v4 v5 t1 (0 : Int32) h).bind fun e => match e with | .inl h6 => some ((0 : Int32), h6) | .inr h7 => some ((1 : Int32), h7) else some ((0 : Int32), h)
def f_X9_settles_g (g_X9_firstOf : aH → Nat → Int32 → Int32 → Int32 → Option (Int32 × aH)) (h : aH) (v0 : Nat) (v1 : Int32) (v2 : Int32) (v3 : Int32) (v4 : Int32) (v5 : Int32) : Option (Int32 × aH) := if v4 = (1 : Int32) then f_X9_settles_j15 g_X9_firstOf h v0 v1 v2 v3 v4 v5 v0 v1 v2 v3 (1 : Int32) else f_X9_settles_j15 g_X9_firstOf h v0 v1 v2 v3 v4 v5 v0 v1 v2 v3 (0 : Int32)
theorem s_X9_settles_g {g_X9_firstOf : aH → Nat → Int32 → Int32 → Int32 → Option (Int32 × aH)} {d d0 : Nat} (hd : 1 ≤ d) (hd0 : d0 ≤ d) (H_X9_firstOf : ∀ (h : aH) (v0 : Nat) (v1 : Int32) (v2 : Int32) (v3 : Int32) (out : Int32 × aH), g_X9_firstOf h v0 v1 v2 v3 = some out → EV d0 yX9_firstOf cX9_firstOf 7 (some .int) h [.ref v0, .int v1, .int v2, .int v3] (some (.int out.1)) out.2 0 0) {h : aH} {v0 : Nat} {v1 : Int32} {v2 : Int32} {v3 : Int32} {v4 : Int32} {v5 : Int32} {out : Int32 × aH} (hf0 : f_X9_settles_g g_X9_firstOf h v0 v1 v2 v3 v4 v5 = some out) : EV (d + 1) yX9_settles cX9_settles 8 (some .boolean) h [.ref v0, .int v1, .int v2, .int v3, .int v4, .int v5] (some (.int out.1)) out.2 0 0 := by
  refine EV.of (own := RX9) (lv0 := [(0, .ref v0), (1, .int v1), (2, .int v2), (3, .int v3), (4, .int v4), (5, .int v5)]) (by decide +kernel) rfl rfl (Nat.le_of_ble_eq_true rfl) ?_
  intro p l e s m args below meth c D cA B Hb C hin
  unfold f_X9_settles_g at hf0
  have J15 : ∀ (h1 : aH) (t2 : Nat) (t3 : Int32) (t4 : Int32) (t5 : Int32) (t6 : Int32) (t7 : Int32) (t8 : Nat) (t9 : Int32) (t10 : Int32) (t11 : Int32) (t12 : Int32), f_X9_settles_j15 g_X9_firstOf h1 t2 t3 t4 t5 t6 t7 t8 t9 t10 t11 t12 = some out → gW p l e (rmO (d + 1) 0 0) s m args below meth c (MQ below (eQ D cA B Hb out.2 (some (.int out.1))) args s 0 0 (fun q => B ≤ q)) D cA B Hb 8 h1 15 [(0, .ref t2), (1, .int t3), (2, .int t4), (3, .int t5), (4, .int t6), (5, .int t7)] [.int t12, .int t11, .int t10, .int t9, .ref t8] 0 0 := by
    intro h1 t2 t3 t4 t5 t6 t7 t8 t9 t10 t11 t12 hf0
    unfold f_X9_settles_j15 at hf0
    obtain ⟨u14, e13, hf0⟩ := ob hf0
    obtain ⟨t15, e16, hf0⟩ := ob hf0
    refine r_cV (ci := 9) (rest := []) (st2 := [.int t15]) C (s_X9_openBehind e16) mk_X9_openBehind rfl (ck_k e13) (by decide) im_X9_openBehind sl_X9_openBehind lk_X9_71 rfl rfl rfl dX9_settles_15 (Nat.le_of_ble_eq_true rfl) ⟨(by simp only [rmO]; omega), (by simp only [rmO]; omega)⟩ ⟨Nat.le_of_ble_eq_true rfl, Nat.le_of_ble_eq_true rfl⟩ ?_
    refine r_istore (lv' := [(6, .int t15), (0, .ref t2), (1, .int t3), (2, .int t4), (3, .int t5), (4, .int t6), (5, .int t7)]) C dX9_settles_18 (by decide) rfl rfl ?_
    refine r_iload C dX9_settles_20 rfl ?_
    refine r_ifne (tgt := 27) C dX9_settles_22 (by decide) (fun c17 => ?_) (fun c17 => ?_)
    · rw [if_neg c17] at hf0
      refine r_iload C dX9_settles_27 rfl ?_
      refine r_iconst (v := 1) C dX9_settles_29 (by decide) ?_
      refine r_icmp_eq (tgt := 40) C dX9_settles_30 (by decide) (fun c18 => ?_) (fun c18 => ?_)
      · rw [if_pos c18] at hf0
        refine r_iconst (v := 0) C dX9_settles_40 (by decide) ?_
        obtain rfl := so hf0
        exact r_zret C dX9_settles_41 (Or.inl rfl)
      · rw [if_neg c18] at hf0
        refine r_iload_n C dX9_settles_33 rfl ?_
        refine r_iconst (v := 1) C dX9_settles_34 (by decide) ?_
        refine r_iadd C dX9_settles_35 ?_
        refine r_iconst (v := 3) C dX9_settles_36 (by decide) ?_
        refine r_icmp_lt (tgt := 42) C dX9_settles_37 (by decide) (fun c19 => ?_) (fun c19 => ?_)
        · rw [if_pos c19] at hf0
          refine r_iconst (v := 0) C dX9_settles_42 (by decide) ?_
          refine r_istore (lv' := [(7, .int (0 : Int32)), (6, .int t15), (0, .ref t2), (1, .int t3), (2, .int t4), (3, .int t5), (4, .int t6), (5, .int t7)]) C dX9_settles_43 (by decide) rfl rfl ?_
          obtain ⟨y20, hl45, hf0⟩ := ob hf0
          have L45 : ∀ (n : Nat) (t21 : Int32) (h22 : aH), whileL n (fun q : Int32 × aH => f_X9_settles_b45 g_X9_firstOf t2 t3 t4 t5 t6 t7 t15 q.1 q.2) (t21, h22) = some y20 → gW p l e (rmO (d + 1) 0 0) s m args below meth c (MQ below (eQ D cA B Hb out.2 (some (.int out.1))) args s 0 0 (fun q => B ≤ q)) D cA B Hb 8 h22 45 [(0, .ref t2), (1, .int t3), (2, .int t4), (3, .int t5), (4, .int t6), (5, .int t7), (6, .int t15), (7, .int t21)] [] 0 0 := by
            intro n
            induction n with
            | zero => intro t21 h22 hz; cases hz
            | succ n ih45 =>
              intro t21 h22 hz
              obtain ⟨x45, hf1, hk45⟩ := wl hz
              replace hf1 : f_X9_settles_b45 g_X9_firstOf t2 t3 t4 t5 t6 t7 t15 t21 h22 = some x45 := hf1
              unfold f_X9_settles_b45 at hf1
              have J102 : ∀ (h23 : aH) (t24 : Int32), f_X9_settles_j102 g_X9_firstOf h23 t2 t3 t4 t5 t6 t7 t15 t24 = some x45 → gW p l e (rmO (d + 1) 0 0) s m args below meth c (MQ below (eQ D cA B Hb out.2 (some (.int out.1))) args s 0 0 (fun q => B ≤ q)) D cA B Hb 8 h23 102 [(0, .ref t2), (1, .int t3), (2, .int t4), (3, .int t5), (4, .int t6), (5, .int t7), (6, .int t15), (7, .int t24)] [] 0 0 := by
                intro h23 t24 hf1
                unfold f_X9_settles_j102 at hf1
                obtain ⟨t25, e26, hf1⟩ := ob hf1
                refine r_iinc (lv' := [(7, .int t25), (0, .ref t2), (1, .int t3), (2, .int t4), (3, .int t5), (4, .int t6), (5, .int t7), (6, .int t15)]) C dX9_settles_102 rfl e26 (by decide) rfl ?_
                refine r_goto (tgt := 45) C dX9_settles_105 (by decide) ?_
                obtain rfl := so hf1
                refine r_subk [1, 2, 3, 4, 5, 6, 7, 0] (lv' := [(0, .ref t2), (1, .int t3), (2, .int t4), (3, .int t5), (4, .int t6), (5, .int t7), (6, .int t15), (7, .int t25)]) rfl ?_
                exact ih45 t25 h23 hk45
              refine r_iload C dX9_settles_45 rfl ?_
              refine r_bipush (v := 24) C dX9_settles_47 (by decide) ?_
              refine r_icmp_ge (tgt := 108) C dX9_settles_49 (by decide) (fun c27 => ?_) (fun c27 => ?_)
              · rw [if_pos c27] at hf1
                obtain rfl := so hf1
                obtain rfl := so (show some (.inr h22 : (aH) ⊕ (aH)) = some y20 from hk45)
                dsimp only at hf0
                refine r_iconst (v := 1) C dX9_settles_108 (by decide) ?_
                obtain rfl := so hf0
                exact r_zret C dX9_settles_109 (Or.inr rfl)
              · rw [if_neg c27] at hf1
                refine r_iload C dX9_settles_52 rfl ?_
                refine r_iload C dX9_settles_54 rfl ?_
                refine r_ishr C dX9_settles_56 ?_
                refine r_ifeq (tgt := 108) C dX9_settles_57 (by decide) (fun c28 => ?_) (fun c28 => ?_)
                · rw [if_pos c28] at hf1
                  obtain rfl := so hf1
                  obtain rfl := so (show some (.inr h22 : (aH) ⊕ (aH)) = some y20 from hk45)
                  dsimp only at hf0
                  refine r_iconst (v := 1) C dX9_settles_108 (by decide) ?_
                  obtain rfl := so hf0
                  exact r_zret C dX9_settles_109 (Or.inr rfl)
                · rw [if_neg c28] at hf1
                  refine r_iload C dX9_settles_60 rfl ?_
                  refine r_iload C dX9_settles_62 rfl ?_
                  refine r_ishr C dX9_settles_64 ?_
                  refine r_iconst (v := 1) C dX9_settles_65 (by decide) ?_
                  refine r_iand C dX9_settles_66 ?_
                  refine r_ifeq (tgt := 102) C dX9_settles_67 (by decide) (fun c29 => ?_) (fun c29 => ?_)
                  · rw [if_pos c29] at hf1
                    exact J102 h22 t21 hf1
                  · rw [if_neg c29] at hf1
                    refine r_aload_n C dX9_settles_70 rfl ?_
                    refine r_iload_n C dX9_settles_71 rfl ?_
                    refine r_iload_n C dX9_settles_72 rfl ?_
                    refine r_iload_n C dX9_settles_73 rfl ?_
                    refine r_iload C dX9_settles_74 rfl ?_
                    obtain ⟨u31, e30, hf1⟩ := ob hf1
                    obtain ⟨h32, e33, hf1⟩ := ob hf1
                    refine r_cV (ci := 9) (rest := []) (st2 := []) C (s_X9_descend e33) mk_X9_descend rfl (ck_k e30) (by decide) im_X9_descend sl_X9_descend lk_X9_75 rfl rfl rfl dX9_settles_76 (Nat.le_of_ble_eq_true rfl) ⟨(by simp only [rmO]; omega), (by simp only [rmO]; omega)⟩ ⟨Nat.le_of_ble_eq_true rfl, Nat.le_of_ble_eq_true rfl⟩ ?_
                    refine r_aload_n C dX9_settles_79 rfl ?_
                    refine r_iload_n C dX9_settles_80 rfl ?_
                    refine r_iconst (v := 1) C dX9_settles_81 (by decide) ?_
                    refine r_iadd C dX9_settles_82 ?_
                    refine r_iload C dX9_settles_83 rfl ?_
                    refine r_iconst (v := 1) C dX9_settles_85 (by decide) ?_
                    refine r_isub C dX9_settles_86 ?_
                    refine r_iload C dX9_settles_87 rfl ?_
                    refine r_iconst (v := 1) C dX9_settles_89 (by decide) ?_
                    refine r_iload_n C dX9_settles_90 rfl ?_
                    refine r_ishl C dX9_settles_91 ?_
                    refine r_ior C dX9_settles_92 ?_
                    obtain ⟨u35, e34, hf1⟩ := ob hf1
                    obtain ⟨t36, h37, e38, hf1⟩ := ob2 hf1
                    refine r_cV (ci := 9) (rest := []) (st2 := [.int t36]) C (H_X9_firstOf _ _ _ _ _ _ e38) mk_X9_firstOf rfl (ck_k e34) (by decide) im_X9_firstOf sl_X9_firstOf lk_X9_79 rfl rfl rfl dX9_settles_93 (Nat.le_of_ble_eq_true rfl) ⟨(by simp only [rmO]; omega), (by simp only [rmO]; omega)⟩ ⟨Nat.le_of_ble_eq_true rfl, Nat.le_of_ble_eq_true rfl⟩ ?_
                    refine r_iconst (v := -1) C dX9_settles_96 (by decide) ?_
                    refine r_icmp_ne (tgt := 102) C dX9_settles_97 (by decide) (fun c39 => ?_) (fun c39 => ?_)
                    · rw [if_neg c39] at hf1
                      exact J102 h37 t21 hf1
                    · rw [if_pos c39] at hf1
                      obtain rfl := so hf1
                      obtain rfl := so (show some (.inl h37 : (aH) ⊕ (aH)) = some y20 from hk45)
                      dsimp only at hf0
                      refine r_iconst (v := 0) C dX9_settles_100 (by decide) ?_
                      obtain rfl := so hf0
                      exact r_zret C dX9_settles_101 (Or.inl rfl)
          refine r_subk [2, 3, 4, 5, 6, 7, 1, 0] (lv' := [(0, .ref t2), (1, .int t3), (2, .int t4), (3, .int t5), (4, .int t6), (5, .int t7), (6, .int t15), (7, .int (0 : Int32))]) rfl ?_
          exact L45 wN (0 : Int32) h1 hl45
        · rw [if_neg c19] at hf0
          refine r_iconst (v := 0) C dX9_settles_40 (by decide) ?_
          obtain rfl := so hf0
          exact r_zret C dX9_settles_41 (Or.inl rfl)
    · rw [if_pos c17] at hf0
      refine r_iconst (v := 1) C dX9_settles_25 (by decide) ?_
      obtain rfl := so hf0
      exact r_zret C dX9_settles_26 (Or.inr rfl)
  refine r_aload_n C dX9_settles_0 rfl ?_
  refine r_iload_n C dX9_settles_1 rfl ?_
  refine r_iload_n C dX9_settles_2 rfl ?_
  refine r_iload_n C dX9_settles_3 rfl ?_
  refine r_iload C dX9_settles_4 rfl ?_
  refine r_iconst (v := 1) C dX9_settles_6 (by decide) ?_
  refine r_icmp_ne (tgt := 14) C dX9_settles_7 (by decide) (fun c40 => ?_) (fun c40 => ?_)
  · rw [if_neg c40] at hf0
    refine r_iconst (v := 0) C dX9_settles_14 (by decide) ?_
    exact J15 h v0 v1 v2 v3 v4 v5 v0 v1 v2 v3 (0 : Int32) hf0
  · rw [if_pos c40] at hf0
    refine r_iconst (v := 1) C dX9_settles_10 (by decide) ?_
    refine r_goto (tgt := 15) C dX9_settles_11 (by decide) ?_
    exact J15 h v0 v1 v2 v3 v4 v5 v0 v1 v2 v3 (1 : Int32) hf0
def f_X9_firstOf_j93 (g_X9_settles : aH → Nat → Int32 → Int32 → Int32 → Int32 → Int32 → Option (Int32 × aH)) (h : aH) (v0 : Nat) (v1 : Int32) (v2 : Int32) (v3 : Int32) (v4 : Nat) (v5 : Int32) : Option ((Int32 × aH) ⊕ ((Int32 × Int32 × aH) ⊕ (aH))) := (some (v5 + (1 : Int32))).bind fun t3 => some (.inl (t3, h))
def f_X9_firstOf_j87 (g_X9_settles : aH → Nat → Int32 → Int32 → Int32 → Int32 → Int32 → Option (Int32 × aH)) (h : aH) (v0 : Nat) (v1 : Int32) (v2 : Int32) (v3 : Int32) (v4 : Nat) (v5 : Int32) (v6 : Int32) : Option ((Int32 × aH) ⊕ ((Int32 × aH) ⊕ (aH))) := (some (v6 + (1 : Int32))).bind fun t4 => some (.inl (t4, h))
def f_X9_firstOf_b45 (g_X9_settles : aH → Nat → Int32 → Int32 → Int32 → Int32 → Int32 → Option (Int32 × aH)) (v0 : Nat) (v1 : Int32) (v2 : Int32) (v3 : Int32) (v4 : Nat) (v5 : Int32) (v6 : Int32) (h : aH) : Option ((Int32 × aH) ⊕ ((Int32 × aH) ⊕ (aH))) := (gI h 1 v4 16).bind fun t5 => if t5 ≤ v6 then some (.inr (.inr h)) else if ((v3 >>> (v6 &&& 31)) &&& (1 : Int32)) = 0 then (ck h 9 v0).bind fun _ => bd2 (g_X9_settles h v0 v1 v5 v6 v2 v3) fun t6 h7 => if t6 = 0 then f_X9_firstOf_j87 g_X9_settles h7 v0 v1 v2 v3 v4 v5 v6 else some (.inr (.inl (v6, h7))) else f_X9_firstOf_j87 g_X9_settles h v0 v1 v2 v3 v4 v5 v6
def f_X9_firstOf_l45 (g_X9_settles : aH → Nat → Int32 → Int32 → Int32 → Int32 → Int32 → Option (Int32 × aH)) (v0 : Nat) (v1 : Int32) (v2 : Int32) (v3 : Int32) (v4 : Nat) (v5 : Int32) (v6 : Int32) (h : aH) : Option ((Int32 × aH) ⊕ (aH)) := whileL wN (fun q : Int32 × aH => f_X9_firstOf_b45 g_X9_settles v0 v1 v2 v3 v4 v5 q.1 q.2) (v6, h)
def f_X9_firstOf_j42 (g_X9_settles : aH → Nat → Int32 → Int32 → Int32 → Int32 → Int32 → Option (Int32 × aH)) (h : aH) (v0 : Nat) (v1 : Int32) (v2 : Int32) (v3 : Int32) (v4 : Nat) (v5 : Int32) : Option ((Int32 × aH) ⊕ ((Int32 × Int32 × aH) ⊕ (aH))) := (f_X9_firstOf_l45 g_X9_settles v0 v1 v2 v3 v4 v5 (0 : Int32) h).bind fun e => match e with | .inl (t8, h9) => some (.inr (.inl (v5, t8, h9))) | .inr h10 => f_X9_firstOf_j93 g_X9_settles h10 v0 v1 v2 v3 v4 v5
def f_X9_firstOf_b12 (g_X9_settles : aH → Nat → Int32 → Int32 → Int32 → Int32 → Int32 → Option (Int32 × aH)) (v0 : Nat) (v1 : Int32) (v2 : Int32) (v3 : Int32) (v4 : Nat) (v5 : Int32) (h : aH) : Option ((Int32 × aH) ⊕ ((Int32 × Int32 × aH) ⊕ (aH))) := (gI h 1 v4 17).bind fun t11 => if t11 ≤ v5 then some (.inr (.inr h)) else (gI h 9 v0 8).bind fun t12 => if t12 = (-1 : Int32) then f_X9_firstOf_j42 g_X9_settles h v0 v1 v2 v3 v4 v5 else (gI h 9 v0 8).bind fun t13 => if v5 = t13 then f_X9_firstOf_j42 g_X9_settles h v0 v1 v2 v3 v4 v5 else f_X9_firstOf_j93 g_X9_settles h v0 v1 v2 v3 v4 v5
def f_X9_firstOf_l12 (g_X9_settles : aH → Nat → Int32 → Int32 → Int32 → Int32 → Int32 → Option (Int32 × aH)) (v0 : Nat) (v1 : Int32) (v2 : Int32) (v3 : Int32) (v4 : Nat) (v5 : Int32) (h : aH) : Option ((Int32 × Int32 × aH) ⊕ (aH)) := whileL wN (fun q : Int32 × aH => f_X9_firstOf_b12 g_X9_settles v0 v1 v2 v3 v4 q.1 q.2) (v5, h)
def f_X9_firstOf_g (g_X9_settles : aH → Nat → Int32 → Int32 → Int32 → Int32 → Int32 → Option (Int32 × aH)) (h : aH) (v0 : Nat) (v1 : Int32) (v2 : Int32) (v3 : Int32) : Option (Int32 × aH) := (gR h 9 v0 0).bind fun t1 => (gR h 3 t1 4).bind fun t2 => (f_X9_firstOf_l12 g_X9_settles v0 v1 v2 v3 t2 (0 : Int32) h).bind fun e => match e with | .inl (t14, t15, h16) => some ((t14 * (12 : Int32)) + t15, h16) | .inr h17 => some ((-1 : Int32), h17)
theorem s_X9_firstOf_g {g_X9_settles : aH → Nat → Int32 → Int32 → Int32 → Int32 → Int32 → Option (Int32 × aH)} {d d0 : Nat} (hd : 0 ≤ d) (hd0 : d0 ≤ d) (H_X9_settles : ∀ (h : aH) (v0 : Nat) (v1 : Int32) (v2 : Int32) (v3 : Int32) (v4 : Int32) (v5 : Int32) (out : Int32 × aH), g_X9_settles h v0 v1 v2 v3 v4 v5 = some out → EV d0 yX9_settles cX9_settles 8 (some .boolean) h [.ref v0, .int v1, .int v2, .int v3, .int v4, .int v5] (some (.int out.1)) out.2 0 0) {h : aH} {v0 : Nat} {v1 : Int32} {v2 : Int32} {v3 : Int32} {out : Int32 × aH} (hf0 : f_X9_firstOf_g g_X9_settles h v0 v1 v2 v3 = some out) : EV (d + 1) yX9_firstOf cX9_firstOf 7 (some .int) h [.ref v0, .int v1, .int v2, .int v3] (some (.int out.1)) out.2 0 0 := by
  refine EV.of (own := RX9) (lv0 := [(0, .ref v0), (1, .int v1), (2, .int v2), (3, .int v3)]) (by decide +kernel) rfl rfl (Nat.le_of_ble_eq_true rfl) ?_
  intro p l e s m args below meth c D cA B Hb C hin
  unfold f_X9_firstOf_g at hf0
  refine r_aload_n C dX9_firstOf_0 rfl ?_
  obtain ⟨t1, e2, hf0⟩ := ob hf0
  refine r_getR C fk_X9_37 rfl dX9_firstOf_1 e2 ?_
  obtain ⟨t3, e4, hf0⟩ := ob hf0
  refine r_getR C fk_X9_52 rfl dX9_firstOf_4 e4 ?_
  refine r_astore (lv' := [(4, .ref t3), (0, .ref v0), (1, .int v1), (2, .int v2), (3, .int v3)]) C dX9_firstOf_7 (by decide) rfl rfl ?_
  refine r_iconst (v := 0) C dX9_firstOf_9 (by decide) ?_
  refine r_istore (lv' := [(5, .int (0 : Int32)), (4, .ref t3), (0, .ref v0), (1, .int v1), (2, .int v2), (3, .int v3)]) C dX9_firstOf_10 (by decide) rfl rfl ?_
  obtain ⟨y5, hl12, hf0⟩ := ob hf0
  have L12 : ∀ (n : Nat) (t6 : Int32) (h7 : aH), whileL n (fun q : Int32 × aH => f_X9_firstOf_b12 g_X9_settles v0 v1 v2 v3 t3 q.1 q.2) (t6, h7) = some y5 → gW p l e (rmO (d + 1) 0 0) s m args below meth c (MQ below (eQ D cA B Hb out.2 (some (.int out.1))) args s 0 0 (fun q => B ≤ q)) D cA B Hb 7 h7 12 [(0, .ref v0), (1, .int v1), (2, .int v2), (3, .int v3), (4, .ref t3), (5, .int t6)] [] 0 0 := by
    intro n
    induction n with
    | zero => intro t6 h7 hz; cases hz
    | succ n ih12 =>
      intro t6 h7 hz
      obtain ⟨x12, hf1, hk12⟩ := wl hz
      replace hf1 : f_X9_firstOf_b12 g_X9_settles v0 v1 v2 v3 t3 t6 h7 = some x12 := hf1
      unfold f_X9_firstOf_b12 at hf1
      have J93 : ∀ (h8 : aH) (t9 : Int32), f_X9_firstOf_j93 g_X9_settles h8 v0 v1 v2 v3 t3 t9 = some x12 → gW p l e (rmO (d + 1) 0 0) s m args below meth c (MQ below (eQ D cA B Hb out.2 (some (.int out.1))) args s 0 0 (fun q => B ≤ q)) D cA B Hb 7 h8 93 [(0, .ref v0), (1, .int v1), (2, .int v2), (3, .int v3), (4, .ref t3), (5, .int t9)] [] 0 0 := by
        intro h8 t9 hf1
        unfold f_X9_firstOf_j93 at hf1
        obtain ⟨t10, e11, hf1⟩ := ob hf1
        refine r_iinc (lv' := [(5, .int t10), (0, .ref v0), (1, .int v1), (2, .int v2), (3, .int v3), (4, .ref t3)]) C dX9_firstOf_93 rfl e11 (by decide) rfl ?_
        refine r_goto (tgt := 12) C dX9_firstOf_96 (by decide) ?_
        obtain rfl := so hf1
        refine r_subk [1, 2, 3, 4, 5, 0] (lv' := [(0, .ref v0), (1, .int v1), (2, .int v2), (3, .int v3), (4, .ref t3), (5, .int t10)]) rfl ?_
        exact ih12 t10 h8 hk12
      have J42 : ∀ (h12 : aH) (t13 : Int32), f_X9_firstOf_j42 g_X9_settles h12 v0 v1 v2 v3 t3 t13 = some x12 → gW p l e (rmO (d + 1) 0 0) s m args below meth c (MQ below (eQ D cA B Hb out.2 (some (.int out.1))) args s 0 0 (fun q => B ≤ q)) D cA B Hb 7 h12 42 [(0, .ref v0), (1, .int v1), (2, .int v2), (3, .int v3), (4, .ref t3), (5, .int t13)] [] 0 0 := by
        intro h12 t13 hf1
        unfold f_X9_firstOf_j42 at hf1
        refine r_iconst (v := 0) C dX9_firstOf_42 (by decide) ?_
        refine r_istore (lv' := [(6, .int (0 : Int32)), (0, .ref v0), (1, .int v1), (2, .int v2), (3, .int v3), (4, .ref t3), (5, .int t13)]) C dX9_firstOf_43 (by decide) rfl rfl ?_
        obtain ⟨y14, hl45, hf1⟩ := ob hf1
        have L45 : ∀ (n : Nat) (t15 : Int32) (h16 : aH), whileL n (fun q : Int32 × aH => f_X9_firstOf_b45 g_X9_settles v0 v1 v2 v3 t3 t13 q.1 q.2) (t15, h16) = some y14 → gW p l e (rmO (d + 1) 0 0) s m args below meth c (MQ below (eQ D cA B Hb out.2 (some (.int out.1))) args s 0 0 (fun q => B ≤ q)) D cA B Hb 7 h16 45 [(0, .ref v0), (1, .int v1), (2, .int v2), (3, .int v3), (4, .ref t3), (5, .int t13), (6, .int t15)] [] 0 0 := by
          intro n
          induction n with
          | zero => intro t15 h16 hz; cases hz
          | succ n ih45 =>
            intro t15 h16 hz
            obtain ⟨x45, hf2, hk45⟩ := wl hz
            replace hf2 : f_X9_firstOf_b45 g_X9_settles v0 v1 v2 v3 t3 t13 t15 h16 = some x45 := hf2
            unfold f_X9_firstOf_b45 at hf2
            have J87 : ∀ (h17 : aH) (t18 : Int32), f_X9_firstOf_j87 g_X9_settles h17 v0 v1 v2 v3 t3 t13 t18 = some x45 → gW p l e (rmO (d + 1) 0 0) s m args below meth c (MQ below (eQ D cA B Hb out.2 (some (.int out.1))) args s 0 0 (fun q => B ≤ q)) D cA B Hb 7 h17 87 [(0, .ref v0), (1, .int v1), (2, .int v2), (3, .int v3), (4, .ref t3), (5, .int t13), (6, .int t18)] [] 0 0 := by
              intro h17 t18 hf2
              unfold f_X9_firstOf_j87 at hf2
              obtain ⟨t19, e20, hf2⟩ := ob hf2
              refine r_iinc (lv' := [(6, .int t19), (0, .ref v0), (1, .int v1), (2, .int v2), (3, .int v3), (4, .ref t3), (5, .int t13)]) C dX9_firstOf_87 rfl e20 (by decide) rfl ?_
              refine r_goto (tgt := 45) C dX9_firstOf_90 (by decide) ?_
              obtain rfl := so hf2
              refine r_subk [1, 2, 3, 4, 5, 6, 0] (lv' := [(0, .ref v0), (1, .int v1), (2, .int v2), (3, .int v3), (4, .ref t3), (5, .int t13), (6, .int t19)]) rfl ?_
              exact ih45 t19 h17 hk45
            refine r_iload C dX9_firstOf_45 rfl ?_
            refine r_aload C dX9_firstOf_47 rfl ?_
            obtain ⟨t21, e22, hf2⟩ := ob hf2
            refine r_getI C fk_X9_64 rfl dX9_firstOf_49 e22 ?_
            refine r_icmp_ge (tgt := 93) C dX9_firstOf_52 (by decide) (fun c23 => ?_) (fun c23 => ?_)
            · rw [if_pos c23] at hf2
              obtain rfl := so hf2
              obtain rfl := so (show some (.inr h16 : (Int32 × aH) ⊕ (aH)) = some y14 from hk45)
              dsimp only at hf1
              refine r_subk [0, 1, 2, 3, 4, 5] (lv' := [(0, .ref v0), (1, .int v1), (2, .int v2), (3, .int v3), (4, .ref t3), (5, .int t13)]) rfl ?_
              exact J93 h16 t13 hf1
            · rw [if_neg c23] at hf2
              refine r_iload_n C dX9_firstOf_55 rfl ?_
              refine r_iload C dX9_firstOf_56 rfl ?_
              refine r_ishr C dX9_firstOf_58 ?_
              refine r_iconst (v := 1) C dX9_firstOf_59 (by decide) ?_
              refine r_iand C dX9_firstOf_60 ?_
              refine r_ifne (tgt := 87) C dX9_firstOf_61 (by decide) (fun c24 => ?_) (fun c24 => ?_)
              · rw [if_neg c24] at hf2
                exact J87 h16 t15 hf2
              · rw [if_pos c24] at hf2
                refine r_aload_n C dX9_firstOf_64 rfl ?_
                refine r_iload_n C dX9_firstOf_65 rfl ?_
                refine r_iload C dX9_firstOf_66 rfl ?_
                refine r_iload C dX9_firstOf_68 rfl ?_
                refine r_iload_n C dX9_firstOf_70 rfl ?_
                refine r_iload_n C dX9_firstOf_71 rfl ?_
                obtain ⟨u26, e25, hf2⟩ := ob hf2
                obtain ⟨t27, h28, e29, hf2⟩ := ob2 hf2
                refine r_cV (ci := 9) (rest := []) (st2 := [.int t27]) C (H_X9_settles _ _ _ _ _ _ _ _ e29) mk_X9_settles rfl (ck_k e25) (by decide) im_X9_settles sl_X9_settles lk_X9_67 rfl rfl rfl dX9_firstOf_72 (Nat.le_of_ble_eq_true rfl) ⟨(by simp only [rmO]; omega), (by simp only [rmO]; omega)⟩ ⟨Nat.le_of_ble_eq_true rfl, Nat.le_of_ble_eq_true rfl⟩ ?_
                refine r_ifeq (tgt := 87) C dX9_firstOf_75 (by decide) (fun c30 => ?_) (fun c30 => ?_)
                · rw [if_pos c30] at hf2
                  exact J87 h28 t15 hf2
                · rw [if_neg c30] at hf2
                  obtain rfl := so hf2
                  obtain rfl := so (show some (.inl (t15, h28) : (Int32 × aH) ⊕ (aH)) = some y14 from hk45)
                  dsimp only at hf1
                  obtain rfl := so hf1
                  obtain rfl := so (show some (.inl (t13, t15, h28) : (Int32 × Int32 × aH) ⊕ (aH)) = some y5 from hk12)
                  dsimp only at hf0
                  refine r_iload C dX9_firstOf_78 rfl ?_
                  refine r_bipush (v := 12) C dX9_firstOf_80 (by decide) ?_
                  refine r_imul C dX9_firstOf_82 ?_
                  refine r_iload C dX9_firstOf_83 rfl ?_
                  refine r_iadd C dX9_firstOf_85 ?_
                  obtain rfl := so hf0
                  exact r_iret C dX9_firstOf_86
        refine r_subk [1, 2, 3, 4, 5, 6, 0] (lv' := [(0, .ref v0), (1, .int v1), (2, .int v2), (3, .int v3), (4, .ref t3), (5, .int t13), (6, .int (0 : Int32))]) rfl ?_
        exact L45 wN (0 : Int32) h12 hl45
      refine r_iload C dX9_firstOf_12 rfl ?_
      refine r_aload C dX9_firstOf_14 rfl ?_
      obtain ⟨t31, e32, hf1⟩ := ob hf1
      refine r_getI C fk_X9_61 rfl dX9_firstOf_16 e32 ?_
      refine r_icmp_ge (tgt := 99) C dX9_firstOf_19 (by decide) (fun c33 => ?_) (fun c33 => ?_)
      · rw [if_pos c33] at hf1
        obtain rfl := so hf1
        obtain rfl := so (show some (.inr h7 : (Int32 × Int32 × aH) ⊕ (aH)) = some y5 from hk12)
        dsimp only at hf0
        refine r_iconst (v := -1) C dX9_firstOf_99 (by decide) ?_
        obtain rfl := so hf0
        exact r_iret C dX9_firstOf_100
      · rw [if_neg c33] at hf1
        refine r_aload_n C dX9_firstOf_22 rfl ?_
        obtain ⟨t34, e35, hf1⟩ := ob hf1
        refine r_getI C fk_X9_34 rfl dX9_firstOf_23 e35 ?_
        refine r_iconst (v := -1) C dX9_firstOf_26 (by decide) ?_
        refine r_icmp_eq (tgt := 42) C dX9_firstOf_27 (by decide) (fun c36 => ?_) (fun c36 => ?_)
        · rw [if_pos c36] at hf1
          exact J42 h7 t6 hf1
        · rw [if_neg c36] at hf1
          refine r_iload C dX9_firstOf_30 rfl ?_
          refine r_aload_n C dX9_firstOf_32 rfl ?_
          obtain ⟨t37, e38, hf1⟩ := ob hf1
          refine r_getI C fk_X9_34 rfl dX9_firstOf_33 e38 ?_
          refine r_icmp_eq (tgt := 42) C dX9_firstOf_36 (by decide) (fun c39 => ?_) (fun c39 => ?_)
          · rw [if_pos c39] at hf1
            exact J42 h7 t6 hf1
          · rw [if_neg c39] at hf1
            refine r_goto (tgt := 93) C dX9_firstOf_39 (by decide) ?_
            exact J93 h7 t6 hf1
  refine r_subk [2, 3, 4, 5, 1, 0] (lv' := [(0, .ref v0), (1, .int v1), (2, .int v2), (3, .int v3), (4, .ref t3), (5, .int (0 : Int32))]) rfl ?_
  exact L12 wN (0 : Int32) h hl12
def f_X9_rSet : Nat → aH → Nat → Int32 → Int32 → Int32 → Int32 → Int32 → Option (Int32 × aH)
  | 0 => fun _ _ _ _ _ _ _ => none
  | n + 1 => f_X9_settles_g (f_X9_firstOf_g (f_X9_rSet n))
theorem s_X9_rSet : ∀ (n : Nat) (h : aH) (v0 : Nat) (v1 v2 v3 v4 v5 : Int32) (out : Int32 × aH), f_X9_rSet n h v0 v1 v2 v3 v4 v5 = some out → EV (1 + 2 * n) yX9_settles cX9_settles 8 (some .boolean) h [.ref v0, .int v1, .int v2, .int v3, .int v4, .int v5] (some (.int out.1)) out.2 0 0
  | 0, _, _, _, _, _, _, _, _, hf => by cases hf
  | n + 1, h, v0, v1, v2, v3, v4, v5, out, hf => s_X9_settles_g (d := 1 + 2 * n + 1) (d0 := 1 + 2 * n + 1) (by omega) (by omega) (fun _ _ _ _ _ _ hq => s_X9_firstOf_g (d := 1 + 2 * n) (d0 := 1 + 2 * n) (by omega) (by omega) (s_X9_rSet n) hq) hf
def f_X9_firstOf (h : aH) (v0 : Nat) (v1 v2 v3 : Int32) : Option (Int32 × aH) := f_X9_firstOf_g (f_X9_rSet 4) h v0 v1 v2 v3
theorem s_X9_firstOf {h : aH} {v0 : Nat} {v1 v2 v3 : Int32} {out : Int32 × aH} (hf : f_X9_firstOf h v0 v1 v2 v3 = some out) : EV 10 yX9_firstOf cX9_firstOf 7 (some .int) h [.ref v0, .int v1, .int v2, .int v3] (some (.int out.1)) out.2 0 0 :=
  s_X9_firstOf_g (d := 9) (d0 := 9) (by omega) (by omega) (s_X9_rSet 4) hf
def f_X9_gatherAgainst_j110 (h : aH) (v0 : Nat) (v1 : Int32) (v2 : Int32) (v3 : Nat) (v4 : Int32) : Option ((Int32 × aH) ⊕ (aH)) := (some (v4 + (1 : Int32))).bind fun t5 => some (.inl (t5, h))
def f_X9_gatherAgainst_b53 (v0 : Nat) (v1 : Int32) (v2 : Int32) (v3 : Nat) (v4 : Int32) (v5 : Int32) (h : aH) : Option ((Int32 × aH) ⊕ (aH)) := (gR h 9 v0 0).bind fun t9 => (gR h 3 t9 0).bind fun t10 => (gI h 6 t10 4).bind fun t11 => if t11 ≤ v5 then some (.inr h) else (gR h 9 v0 4).bind fun t12 => (gI h 9 v0 5).bind fun t13 => (gR h 9 v0 0).bind fun t14 => (ck h 3 t14).bind fun _ => (f_X3_agreeing h t14 v5 v4).bind fun t15 => (sI h t12 ((t13 * (12 : Int32)) + v5) t15).bind fun h16 => (some (v5 + (1 : Int32))).bind fun t17 => some (.inl (t17, h16))
def f_X9_gatherAgainst_l53 (v0 : Nat) (v1 : Int32) (v2 : Int32) (v3 : Nat) (v4 : Int32) (v5 : Int32) (h : aH) : Option (aH) := whileL wN (fun q : Int32 × aH => f_X9_gatherAgainst_b53 v0 v1 v2 v3 v4 q.1 q.2) (v5, h)
def f_X9_gatherAgainst_b21 (v0 : Nat) (v1 : Int32) (v2 : Int32) (v3 : Nat) (v4 : Int32) (h : aH) : Option ((Int32 × aH) ⊕ (aH)) := (gI h 1 v3 14).bind fun t6 => if t6 ≤ v4 then some (.inr h) else (ck h 1 v3).bind fun _ => (f_X1_canBe h v3 v4).bind fun t7 => if t7 = 0 then f_X9_gatherAgainst_j110 h v0 v1 v2 v3 v4 else (ck h 1 v3).bind fun _ => (f_X1_inQuestion h v3 v1 v4).bind fun t8 => if t8 = v2 then f_X9_gatherAgainst_j110 h v0 v1 v2 v3 v4 else (f_X9_gatherAgainst_l53 v0 v1 v2 v3 v4 (0 : Int32) h).bind fun h18 => (gI h18 9 v0 5).bind fun t19 => (pI h18 9 v0 5 (t19 + (1 : Int32))).bind fun h20 => f_X9_gatherAgainst_j110 h20 v0 v1 v2 v3 v4
def f_X9_gatherAgainst_l21 (v0 : Nat) (v1 : Int32) (v2 : Int32) (v3 : Nat) (v4 : Int32) (h : aH) : Option (aH) := whileL wN (fun q : Int32 × aH => f_X9_gatherAgainst_b21 v0 v1 v2 v3 q.1 q.2) (v4, h)
def f_X9_gatherAgainst (h : aH) (v0 : Nat) (v1 : Int32) (v2 : Int32) : Option (aH) := (gR h 9 v0 0).bind fun t1 => (gR h 3 t1 4).bind fun t2 => (pI h 9 v0 5 (0 : Int32)).bind fun h3 => (pI h3 9 v0 6 (0 : Int32)).bind fun h4 => (f_X9_gatherAgainst_l21 v0 v1 v2 t2 (0 : Int32) h4).bind fun h21 => some h21
theorem s_X9_gatherAgainst {h : aH} {v0 : Nat} {v1 : Int32} {v2 : Int32} {out : aH} (hf0 : f_X9_gatherAgainst h v0 v1 v2 = some out) : EV 2 yX9_gatherAgainst cX9_gatherAgainst 6 none h [.ref v0, .int v1, .int v2] none out 0 0 := by
  refine EV.of (own := RX9) (lv0 := [(0, .ref v0), (1, .int v1), (2, .int v2)]) (by decide +kernel) rfl rfl (Nat.le_of_ble_eq_true rfl) ?_
  intro p l e s m args below meth c D cA B Hb C hin
  unfold f_X9_gatherAgainst at hf0
  refine r_aload_n C dX9_gatherAgainst_0 rfl ?_
  obtain ⟨t1, e2, hf0⟩ := ob hf0
  refine r_getR C fk_X9_37 rfl dX9_gatherAgainst_1 e2 ?_
  obtain ⟨t3, e4, hf0⟩ := ob hf0
  refine r_getR C fk_X9_52 rfl dX9_gatherAgainst_4 e4 ?_
  refine r_astore_n (lv' := [(3, .ref t3), (0, .ref v0), (1, .int v1), (2, .int v2)]) C dX9_gatherAgainst_7 (by decide) rfl rfl ?_
  refine r_aload_n C dX9_gatherAgainst_8 rfl ?_
  refine r_iconst (v := 0) C dX9_gatherAgainst_9 (by decide) ?_
  obtain ⟨h5, e6, hf0⟩ := ob hf0
  refine r_putI C fk_X9_24 dX9_gatherAgainst_10 e6 ?_
  refine r_aload_n C dX9_gatherAgainst_13 rfl ?_
  refine r_iconst (v := 0) C dX9_gatherAgainst_14 (by decide) ?_
  obtain ⟨h7, e8, hf0⟩ := ob hf0
  refine r_putI C fk_X9_28 dX9_gatherAgainst_15 e8 ?_
  refine r_iconst (v := 0) C dX9_gatherAgainst_18 (by decide) ?_
  refine r_istore (lv' := [(4, .int (0 : Int32)), (3, .ref t3), (0, .ref v0), (1, .int v1), (2, .int v2)]) C dX9_gatherAgainst_19 (by decide) rfl rfl ?_
  obtain ⟨y9, hl21, hf0⟩ := ob hf0
  have L21 : ∀ (n : Nat) (t10 : Int32) (h11 : aH), whileL n (fun q : Int32 × aH => f_X9_gatherAgainst_b21 v0 v1 v2 t3 q.1 q.2) (t10, h11) = some y9 → gW p l e (rmO 2 0 0) s m args below meth c (MQ below (eQ D cA B Hb out none) args s 0 0 (fun q => B ≤ q)) D cA B Hb 6 h11 21 [(0, .ref v0), (1, .int v1), (2, .int v2), (3, .ref t3), (4, .int t10)] [] 0 0 := by
    intro n
    induction n with
    | zero => intro t10 h11 hz; cases hz
    | succ n ih21 =>
      intro t10 h11 hz
      obtain ⟨x21, hf1, hk21⟩ := wl hz
      replace hf1 : f_X9_gatherAgainst_b21 v0 v1 v2 t3 t10 h11 = some x21 := hf1
      unfold f_X9_gatherAgainst_b21 at hf1
      have J110 : ∀ (h12 : aH) (t13 : Int32), f_X9_gatherAgainst_j110 h12 v0 v1 v2 t3 t13 = some x21 → gW p l e (rmO 2 0 0) s m args below meth c (MQ below (eQ D cA B Hb out none) args s 0 0 (fun q => B ≤ q)) D cA B Hb 6 h12 110 [(0, .ref v0), (1, .int v1), (2, .int v2), (3, .ref t3), (4, .int t13)] [] 0 0 := by
        intro h12 t13 hf1
        unfold f_X9_gatherAgainst_j110 at hf1
        obtain ⟨t14, e15, hf1⟩ := ob hf1
        refine r_iinc (lv' := [(4, .int t14), (0, .ref v0), (1, .int v1), (2, .int v2), (3, .ref t3)]) C dX9_gatherAgainst_110 rfl e15 (by decide) rfl ?_
        refine r_goto (tgt := 21) C dX9_gatherAgainst_113 (by decide) ?_
        obtain rfl := so hf1
        refine r_subk [1, 2, 3, 4, 0] (lv' := [(0, .ref v0), (1, .int v1), (2, .int v2), (3, .ref t3), (4, .int t14)]) rfl ?_
        exact ih21 t14 h12 hk21
      refine r_iload C dX9_gatherAgainst_21 rfl ?_
      refine r_aload_n C dX9_gatherAgainst_23 rfl ?_
      obtain ⟨t16, e17, hf1⟩ := ob hf1
      refine r_getI C fk_X9_119 rfl dX9_gatherAgainst_24 e17 ?_
      refine r_icmp_ge (tgt := 116) C dX9_gatherAgainst_27 (by decide) (fun c18 => ?_) (fun c18 => ?_)
      · rw [if_pos c18] at hf1
        obtain rfl := so hf1
        obtain rfl := so (show some h11 = some y9 from hk21)
        obtain rfl := so hf0
        exact r_vret C dX9_gatherAgainst_116
      · rw [if_neg c18] at hf1
        refine r_aload_n C dX9_gatherAgainst_30 rfl ?_
        refine r_iload C dX9_gatherAgainst_31 rfl ?_
        obtain ⟨u20, e19, hf1⟩ := ob hf1
        obtain ⟨t21, e22, hf1⟩ := ob hf1
        refine r_cV (ci := 1) (rest := []) (st2 := [.int t21]) C (s_X1_canBe e22) mk_X1_canBe rfl (ck_k e19) (by decide) im_X1_canBe sl_X1_canBe lk_X9_121 rfl rfl rfl dX9_gatherAgainst_33 (Nat.le_of_ble_eq_true rfl) ⟨Nat.le_of_ble_eq_true rfl, Nat.le_of_ble_eq_true rfl⟩ ⟨Nat.le_of_ble_eq_true rfl, Nat.le_of_ble_eq_true rfl⟩ ?_
        refine r_ifeq (tgt := 110) C dX9_gatherAgainst_36 (by decide) (fun c23 => ?_) (fun c23 => ?_)
        · rw [if_pos c23] at hf1
          exact J110 h11 t10 hf1
        · rw [if_neg c23] at hf1
          refine r_aload_n C dX9_gatherAgainst_39 rfl ?_
          refine r_iload_n C dX9_gatherAgainst_40 rfl ?_
          refine r_iload C dX9_gatherAgainst_41 rfl ?_
          obtain ⟨u25, e24, hf1⟩ := ob hf1
          obtain ⟨t26, e27, hf1⟩ := ob hf1
          refine r_cV (ci := 1) (rest := []) (st2 := [.int t26]) C (s_X1_inQuestion e27) mk_X1_inQuestion rfl (ck_k e24) (by decide) im_X1_inQuestion sl_X1_inQuestion lk_X9_90 rfl rfl rfl dX9_gatherAgainst_43 (Nat.le_of_ble_eq_true rfl) ⟨Nat.le_of_ble_eq_true rfl, Nat.le_of_ble_eq_true rfl⟩ ⟨Nat.le_of_ble_eq_true rfl, Nat.le_of_ble_eq_true rfl⟩ ?_
          refine r_iload_n C dX9_gatherAgainst_46 rfl ?_
          refine r_icmp_eq (tgt := 110) C dX9_gatherAgainst_47 (by decide) (fun c28 => ?_) (fun c28 => ?_)
          · rw [if_pos c28] at hf1
            exact J110 h11 t10 hf1
          · rw [if_neg c28] at hf1
            refine r_iconst (v := 0) C dX9_gatherAgainst_50 (by decide) ?_
            refine r_istore (lv' := [(5, .int (0 : Int32)), (0, .ref v0), (1, .int v1), (2, .int v2), (3, .ref t3), (4, .int t10)]) C dX9_gatherAgainst_51 (by decide) rfl rfl ?_
            obtain ⟨y29, hl53, hf1⟩ := ob hf1
            have L53 : ∀ (n : Nat) (t30 : Int32) (h31 : aH), whileL n (fun q : Int32 × aH => f_X9_gatherAgainst_b53 v0 v1 v2 t3 t10 q.1 q.2) (t30, h31) = some y29 → gW p l e (rmO 2 0 0) s m args below meth c (MQ below (eQ D cA B Hb out none) args s 0 0 (fun q => B ≤ q)) D cA B Hb 6 h31 53 [(0, .ref v0), (1, .int v1), (2, .int v2), (3, .ref t3), (4, .int t10), (5, .int t30)] [] 0 0 := by
              intro n
              induction n with
              | zero => intro t30 h31 hz; cases hz
              | succ n ih53 =>
                intro t30 h31 hz
                obtain ⟨x53, hf2, hk53⟩ := wl hz
                replace hf2 : f_X9_gatherAgainst_b53 v0 v1 v2 t3 t10 t30 h31 = some x53 := hf2
                unfold f_X9_gatherAgainst_b53 at hf2
                refine r_iload C dX9_gatherAgainst_53 rfl ?_
                refine r_aload_n C dX9_gatherAgainst_55 rfl ?_
                obtain ⟨t32, e33, hf2⟩ := ob hf2
                refine r_getR C fk_X9_37 rfl dX9_gatherAgainst_56 e33 ?_
                obtain ⟨t34, e35, hf2⟩ := ob hf2
                refine r_getR C fk_X9_100 rfl dX9_gatherAgainst_59 e35 ?_
                obtain ⟨t36, e37, hf2⟩ := ob hf2
                refine r_getI C fk_X9_104 rfl dX9_gatherAgainst_62 e37 ?_
                refine r_icmp_ge (tgt := 100) C dX9_gatherAgainst_65 (by decide) (fun c38 => ?_) (fun c38 => ?_)
                · rw [if_pos c38] at hf2
                  obtain rfl := so hf2
                  obtain rfl := so (show some h31 = some y29 from hk53)
                  refine r_aload_n C dX9_gatherAgainst_100 rfl ?_
                  refine r_dup C dX9_gatherAgainst_101 rfl ?_
                  obtain ⟨t39, e40, hf1⟩ := ob hf1
                  refine r_getI C fk_X9_24 rfl dX9_gatherAgainst_102 e40 ?_
                  refine r_iconst (v := 1) C dX9_gatherAgainst_105 (by decide) ?_
                  refine r_iadd C dX9_gatherAgainst_106 ?_
                  obtain ⟨h41, e42, hf1⟩ := ob hf1
                  refine r_putI C fk_X9_24 dX9_gatherAgainst_107 e42 ?_
                  refine r_subk [0, 1, 2, 3, 4] (lv' := [(0, .ref v0), (1, .int v1), (2, .int v2), (3, .ref t3), (4, .int t10)]) rfl ?_
                  exact J110 h41 t10 hf1
                · rw [if_neg c38] at hf2
                  refine r_aload_n C dX9_gatherAgainst_68 rfl ?_
                  obtain ⟨t43, e44, hf2⟩ := ob hf2
                  refine r_getR C fk_X9_21 rfl dX9_gatherAgainst_69 e44 ?_
                  refine r_aload_n C dX9_gatherAgainst_72 rfl ?_
                  obtain ⟨t45, e46, hf2⟩ := ob hf2
                  refine r_getI C fk_X9_24 rfl dX9_gatherAgainst_73 e46 ?_
                  refine r_bipush (v := 12) C dX9_gatherAgainst_76 (by decide) ?_
                  refine r_imul C dX9_gatherAgainst_78 ?_
                  refine r_iload C dX9_gatherAgainst_79 rfl ?_
                  refine r_iadd C dX9_gatherAgainst_81 ?_
                  refine r_aload_n C dX9_gatherAgainst_82 rfl ?_
                  obtain ⟨t47, e48, hf2⟩ := ob hf2
                  refine r_getR C fk_X9_37 rfl dX9_gatherAgainst_83 e48 ?_
                  refine r_iload C dX9_gatherAgainst_86 rfl ?_
                  refine r_iload C dX9_gatherAgainst_88 rfl ?_
                  obtain ⟨u50, e49, hf2⟩ := ob hf2
                  obtain ⟨t51, e52, hf2⟩ := ob hf2
                  refine r_cV (ci := 3) (rest := [.int ((t45 * (12 : Int32)) + t30), .ref t43]) (st2 := [.int t51, .int ((t45 * (12 : Int32)) + t30), .ref t43]) C (s_X3_agreeing e52) mk_X3_agreeing rfl (ck_k e49) (by decide) im_X3_agreeing sl_X3_agreeing lk_X9_124 rfl rfl rfl dX9_gatherAgainst_90 (Nat.le_of_ble_eq_true rfl) ⟨Nat.le_of_ble_eq_true rfl, Nat.le_of_ble_eq_true rfl⟩ ⟨Nat.le_of_ble_eq_true rfl, Nat.le_of_ble_eq_true rfl⟩ ?_
                  obtain ⟨h53, e54, hf2⟩ := ob hf2
                  refine r_stI C dX9_gatherAgainst_93 e54 ?_
                  obtain ⟨t55, e56, hf2⟩ := ob hf2
                  refine r_iinc (lv' := [(5, .int t55), (0, .ref v0), (1, .int v1), (2, .int v2), (3, .ref t3), (4, .int t10)]) C dX9_gatherAgainst_94 rfl e56 (by decide) rfl ?_
                  refine r_goto (tgt := 53) C dX9_gatherAgainst_97 (by decide) ?_
                  obtain rfl := so hf2
                  refine r_subk [1, 2, 3, 4, 5, 0] (lv' := [(0, .ref v0), (1, .int v1), (2, .int v2), (3, .ref t3), (4, .int t10), (5, .int t55)]) rfl ?_
                  exact ih53 t55 h53 hk53
            refine r_subk [1, 2, 3, 4, 5, 0] (lv' := [(0, .ref v0), (1, .int v1), (2, .int v2), (3, .ref t3), (4, .int t10), (5, .int (0 : Int32))]) rfl ?_
            exact L53 wN (0 : Int32) h11 hl53
  refine r_subk [2, 3, 4, 1, 0] (lv' := [(0, .ref v0), (1, .int v1), (2, .int v2), (3, .ref t3), (4, .int (0 : Int32))]) rfl ?_
  exact L21 wN (0 : Int32) h7 hl21
def f_X9_standsAgainst_b61 (h : aH) (v3 : Int32) (v4 : Int32) : Option ((Int32) ⊕ ((Unit) ⊕ (Unit))) := if (4 : Int32) ≤ v4 then some (.inr (.inr ())) else if ((v3 >>> ((v4 * (4 : Int32)) &&& 31)) &&& (15 : Int32)) = 0 then some (.inr (.inl ())) else (some (v4 + (1 : Int32))).bind fun t1 => some (.inl t1)
def f_X9_standsAgainst_l61 (h : aH) (v3 : Int32) (v4 : Int32) : Option ((Unit) ⊕ (Unit)) := whileL wN (fun q : Int32 => f_X9_standsAgainst_b61 h v3 q) v4
def f_X9_standsAgainst_j58 (h : aH) (v3 : Int32) : Option (Int32) := (f_X9_standsAgainst_l61 h v3 (0 : Int32)).bind fun e => match e with | .inl _ => some (0 : Int32) | .inr _ => some (1 : Int32)
def f_X9_standsAgainst_j52 (h : aH) (v0 : Nat) (v1 : Int32) (v2 : Int32) (v3 : Int32) (v4 : Int32) : Option ((Int32 × Int32) ⊕ (Int32)) := (some (v4 + (1 : Int32))).bind fun t5 => some (.inl (v3, t5))
def f_X9_standsAgainst_b14 (h : aH) (v0 : Nat) (v1 : Int32) (v2 : Int32) (v3 : Int32) (v4 : Int32) : Option ((Int32 × Int32) ⊕ (Int32)) := if (v2 >>> (v4 &&& 31)) = 0 then some (.inr v3) else if (12 : Int32) ≤ v4 then some (.inr v3) else if ((v2 >>> (v4 &&& 31)) &&& (1 : Int32)) = 0 then f_X9_standsAgainst_j52 h v0 v1 v2 v3 v4 else (gR h 9 v0 4).bind fun t6 => (lI h t6 ((v1 * (12 : Int32)) + v4)).bind fun t7 => (some (v3 &&& t7)).bind fun t8 => f_X9_standsAgainst_j52 h v0 v1 v2 t8 v4
def f_X9_standsAgainst_l14 (h : aH) (v0 : Nat) (v1 : Int32) (v2 : Int32) (v3 : Int32) (v4 : Int32) : Option (Int32) := whileL wN (fun q : Int32 × Int32 => f_X9_standsAgainst_b14 h v0 v1 v2 q.1 q.2) (v3, v4)
def f_X9_standsAgainst (h : aH) (v0 : Nat) (v1 : Int32) (v2 : Int32) : Option (Int32) := (gR h 9 v0 0).bind fun t2 => (gR h 3 t2 4).bind fun t3 => (gI h 1 t3 18).bind fun t4 => (f_X9_standsAgainst_l14 h v0 v1 v2 t4 (0 : Int32)).bind fun t9 => f_X9_standsAgainst_j58 h t9
theorem s_X9_standsAgainst {h : aH} {v0 : Nat} {v1 : Int32} {v2 : Int32} {out : Int32} (hf0 : f_X9_standsAgainst h v0 v1 v2 = some out) : EV 0 yX9_standsAgainst cX9_standsAgainst 5 (some .boolean) h [.ref v0, .int v1, .int v2] (some (.int out)) h 0 0 := by
  refine EV.of (own := RX9) (lv0 := [(0, .ref v0), (1, .int v1), (2, .int v2)]) (by decide +kernel) rfl rfl (Nat.le_of_ble_eq_true rfl) ?_
  intro p l e s m args below meth c D cA B Hb C hin
  unfold f_X9_standsAgainst at hf0
  have J58 : ∀ (t1 : Int32), f_X9_standsAgainst_j58 h t1 = some out → gW p l e (rmO 0 0 0) s m args below meth c (MQ below (eQ D cA B Hb h (some (.int out))) args s 0 0 (fun q => B ≤ q)) D cA B Hb 5 h 58 [(3, .int t1)] [] 0 0 := by
    intro t1 hf0
    unfold f_X9_standsAgainst_j58 at hf0
    refine r_iconst (v := 0) C dX9_standsAgainst_58 (by decide) ?_
    refine r_istore (lv' := [(4, .int (0 : Int32)), (3, .int t1)]) C dX9_standsAgainst_59 (by decide) rfl rfl ?_
    obtain ⟨y2, hl61, hf0⟩ := ob hf0
    have L61 : ∀ (n : Nat) (t3 : Int32), whileL n (fun q : Int32 => f_X9_standsAgainst_b61 h t1 q) t3 = some y2 → gW p l e (rmO 0 0 0) s m args below meth c (MQ below (eQ D cA B Hb h (some (.int out))) args s 0 0 (fun q => B ≤ q)) D cA B Hb 5 h 61 [(3, .int t1), (4, .int t3)] [] 0 0 := by
      intro n
      induction n with
      | zero => intro t3 hz; cases hz
      | succ n ih61 =>
        intro t3 hz
        obtain ⟨x61, hf1, hk61⟩ := wl hz
        replace hf1 : f_X9_standsAgainst_b61 h t1 t3 = some x61 := hf1
        unfold f_X9_standsAgainst_b61 at hf1
        refine r_iload C dX9_standsAgainst_61 rfl ?_
        refine r_iconst (v := 4) C dX9_standsAgainst_63 (by decide) ?_
        refine r_icmp_ge (tgt := 87) C dX9_standsAgainst_64 (by decide) (fun c4 => ?_) (fun c4 => ?_)
        · rw [if_pos c4] at hf1
          obtain rfl := so hf1
          obtain rfl := so (show some (.inr () : (Unit) ⊕ (Unit)) = some y2 from hk61)
          dsimp only at hf0
          refine r_iconst (v := 1) C dX9_standsAgainst_87 (by decide) ?_
          obtain rfl := so hf0
          exact r_zret C dX9_standsAgainst_88 (Or.inr rfl)
        · rw [if_neg c4] at hf1
          refine r_iload_n C dX9_standsAgainst_67 rfl ?_
          refine r_iload C dX9_standsAgainst_68 rfl ?_
          refine r_iconst (v := 4) C dX9_standsAgainst_70 (by decide) ?_
          refine r_imul C dX9_standsAgainst_71 ?_
          refine r_ishr C dX9_standsAgainst_72 ?_
          refine r_bipush (v := 15) C dX9_standsAgainst_73 (by decide) ?_
          refine r_iand C dX9_standsAgainst_75 ?_
          refine r_ifne (tgt := 81) C dX9_standsAgainst_76 (by decide) (fun c5 => ?_) (fun c5 => ?_)
          · rw [if_neg c5] at hf1
            obtain ⟨t6, e7, hf1⟩ := ob hf1
            refine r_iinc (lv' := [(4, .int t6), (3, .int t1)]) C dX9_standsAgainst_81 rfl e7 (by decide) rfl ?_
            refine r_goto (tgt := 61) C dX9_standsAgainst_84 (by decide) ?_
            obtain rfl := so hf1
            refine r_subk [1, 0] (lv' := [(3, .int t1), (4, .int t6)]) rfl ?_
            exact ih61 t6 hk61
          · rw [if_pos c5] at hf1
            obtain rfl := so hf1
            obtain rfl := so (show some (.inl () : (Unit) ⊕ (Unit)) = some y2 from hk61)
            dsimp only at hf0
            refine r_iconst (v := 0) C dX9_standsAgainst_79 (by decide) ?_
            obtain rfl := so hf0
            exact r_zret C dX9_standsAgainst_80 (Or.inl rfl)
    refine r_subk [1, 0] (lv' := [(3, .int t1), (4, .int (0 : Int32))]) rfl ?_
    exact L61 wN (0 : Int32) hl61
  refine r_aload_n C dX9_standsAgainst_0 rfl ?_
  obtain ⟨t8, e9, hf0⟩ := ob hf0
  refine r_getR C fk_X9_37 rfl dX9_standsAgainst_1 e9 ?_
  obtain ⟨t10, e11, hf0⟩ := ob hf0
  refine r_getR C fk_X9_52 rfl dX9_standsAgainst_4 e11 ?_
  obtain ⟨t12, e13, hf0⟩ := ob hf0
  refine r_getI C fk_X9_56 rfl dX9_standsAgainst_7 e13 ?_
  refine r_istore_n (lv' := [(3, .int t12), (0, .ref v0), (1, .int v1), (2, .int v2)]) C dX9_standsAgainst_10 (by decide) rfl rfl ?_
  refine r_iconst (v := 0) C dX9_standsAgainst_11 (by decide) ?_
  refine r_istore (lv' := [(4, .int (0 : Int32)), (3, .int t12), (0, .ref v0), (1, .int v1), (2, .int v2)]) C dX9_standsAgainst_12 (by decide) rfl rfl ?_
  obtain ⟨y14, hl14, hf0⟩ := ob hf0
  have L14 : ∀ (n : Nat) (t15 : Int32) (t16 : Int32), whileL n (fun q : Int32 × Int32 => f_X9_standsAgainst_b14 h v0 v1 v2 q.1 q.2) (t15, t16) = some y14 → gW p l e (rmO 0 0 0) s m args below meth c (MQ below (eQ D cA B Hb h (some (.int out))) args s 0 0 (fun q => B ≤ q)) D cA B Hb 5 h 14 [(0, .ref v0), (1, .int v1), (2, .int v2), (3, .int t15), (4, .int t16)] [] 0 0 := by
    intro n
    induction n with
    | zero => intro t15 t16 hz; cases hz
    | succ n ih14 =>
      intro t15 t16 hz
      obtain ⟨x14, hf1, hk14⟩ := wl hz
      replace hf1 : f_X9_standsAgainst_b14 h v0 v1 v2 t15 t16 = some x14 := hf1
      unfold f_X9_standsAgainst_b14 at hf1
      have J52 : ∀ (t17 : Int32) (t18 : Int32), f_X9_standsAgainst_j52 h v0 v1 v2 t17 t18 = some x14 → gW p l e (rmO 0 0 0) s m args below meth c (MQ below (eQ D cA B Hb h (some (.int out))) args s 0 0 (fun q => B ≤ q)) D cA B Hb 5 h 52 [(0, .ref v0), (1, .int v1), (2, .int v2), (3, .int t17), (4, .int t18)] [] 0 0 := by
        intro t17 t18 hf1
        unfold f_X9_standsAgainst_j52 at hf1
        obtain ⟨t19, e20, hf1⟩ := ob hf1
        refine r_iinc (lv' := [(4, .int t19), (0, .ref v0), (1, .int v1), (2, .int v2), (3, .int t17)]) C dX9_standsAgainst_52 rfl e20 (by decide) rfl ?_
        refine r_goto (tgt := 14) C dX9_standsAgainst_55 (by decide) ?_
        obtain rfl := so hf1
        refine r_subk [1, 2, 3, 4, 0] (lv' := [(0, .ref v0), (1, .int v1), (2, .int v2), (3, .int t17), (4, .int t19)]) rfl ?_
        exact ih14 t17 t19 hk14
      refine r_iload_n C dX9_standsAgainst_14 rfl ?_
      refine r_iload C dX9_standsAgainst_15 rfl ?_
      refine r_ishr C dX9_standsAgainst_17 ?_
      refine r_ifeq (tgt := 58) C dX9_standsAgainst_18 (by decide) (fun c21 => ?_) (fun c21 => ?_)
      · rw [if_pos c21] at hf1
        obtain rfl := so hf1
        obtain rfl := so (show some t15 = some y14 from hk14)
        refine r_subk [3] (lv' := [(3, .int t15)]) rfl ?_
        exact J58 t15 hf0
      · rw [if_neg c21] at hf1
        refine r_iload C dX9_standsAgainst_21 rfl ?_
        refine r_bipush (v := 12) C dX9_standsAgainst_23 (by decide) ?_
        refine r_icmp_ge (tgt := 58) C dX9_standsAgainst_25 (by decide) (fun c22 => ?_) (fun c22 => ?_)
        · rw [if_pos c22] at hf1
          obtain rfl := so hf1
          obtain rfl := so (show some t15 = some y14 from hk14)
          refine r_subk [3] (lv' := [(3, .int t15)]) rfl ?_
          exact J58 t15 hf0
        · rw [if_neg c22] at hf1
          refine r_iload_n C dX9_standsAgainst_28 rfl ?_
          refine r_iload C dX9_standsAgainst_29 rfl ?_
          refine r_ishr C dX9_standsAgainst_31 ?_
          refine r_iconst (v := 1) C dX9_standsAgainst_32 (by decide) ?_
          refine r_iand C dX9_standsAgainst_33 ?_
          refine r_ifeq (tgt := 52) C dX9_standsAgainst_34 (by decide) (fun c23 => ?_) (fun c23 => ?_)
          · rw [if_pos c23] at hf1
            exact J52 t15 t16 hf1
          · rw [if_neg c23] at hf1
            refine r_iload_n C dX9_standsAgainst_37 rfl ?_
            refine r_aload_n C dX9_standsAgainst_38 rfl ?_
            obtain ⟨t24, e25, hf1⟩ := ob hf1
            refine r_getR C fk_X9_21 rfl dX9_standsAgainst_39 e25 ?_
            refine r_iload_n C dX9_standsAgainst_42 rfl ?_
            refine r_bipush (v := 12) C dX9_standsAgainst_43 (by decide) ?_
            refine r_imul C dX9_standsAgainst_45 ?_
            refine r_iload C dX9_standsAgainst_46 rfl ?_
            refine r_iadd C dX9_standsAgainst_48 ?_
            obtain ⟨t26, e27, hf1⟩ := ob hf1
            refine r_ldI C dX9_standsAgainst_49 e27 ?_
            refine r_iand C dX9_standsAgainst_50 ?_
            obtain ⟨t28, e29, hf1⟩ := ob hf1
            refine r_istore_n (lv' := [(3, .int t28), (0, .ref v0), (1, .int v1), (2, .int v2), (4, .int t16)]) C dX9_standsAgainst_51 (by decide) e29 rfl ?_
            refine r_subk [1, 2, 3, 0, 4] (lv' := [(0, .ref v0), (1, .int v1), (2, .int v2), (3, .int t28), (4, .int t16)]) rfl ?_
            exact J52 t28 t16 hf1
  refine r_subk [2, 3, 4, 1, 0] (lv' := [(0, .ref v0), (1, .int v1), (2, .int v2), (3, .int t12), (4, .int (0 : Int32))]) rfl ?_
  exact L14 wN t12 (0 : Int32) hl14
def f_X9_isProof_b23 (h : aH) (v0 : Nat) (v1 : Int32) (v2 : Int32) : Option ((Int32) ⊕ ((Int32) ⊕ (Unit))) := (gI h 9 v0 5).bind fun t1 => if t1 ≤ v2 then some (.inr (.inr ())) else (ck h 9 v0).bind fun _ => (f_X9_standsAgainst h v0 v2 v1).bind fun t2 => if t2 = 0 then (some (v2 + (1 : Int32))).bind fun t3 => some (.inl t3) else some (.inr (.inl v2))
def f_X9_isProof_l23 (h : aH) (v0 : Nat) (v1 : Int32) (v2 : Int32) : Option ((Int32) ⊕ (Unit)) := whileL wN (fun q : Int32 => f_X9_isProof_b23 h v0 v1 q) v2
def f_X9_isProof_j21 (h : aH) (v0 : Nat) (v1 : Int32) : Option (Int32 × aH) := (f_X9_isProof_l23 h v0 v1 (0 : Int32)).bind fun e => match e with | .inl t4 => (pI h 9 v0 6 t4).bind fun h5 => some ((0 : Int32), h5) | .inr _ => some ((1 : Int32), h)
def f_X9_isProof (h : aH) (v0 : Nat) (v1 : Int32) : Option (Int32 × aH) := (gI h 9 v0 5).bind fun t6 => if t6 ≤ 0 then f_X9_isProof_j21 h v0 v1 else (gI h 9 v0 6).bind fun t7 => (ck h 9 v0).bind fun _ => (f_X9_standsAgainst h v0 t7 v1).bind fun t8 => if t8 = 0 then f_X9_isProof_j21 h v0 v1 else some ((0 : Int32), h)
theorem s_X9_isProof {h : aH} {v0 : Nat} {v1 : Int32} {out : Int32 × aH} (hf0 : f_X9_isProof h v0 v1 = some out) : EV 1 yX9_isProof cX9_isProof 3 (some .boolean) h [.ref v0, .int v1] (some (.int out.1)) out.2 0 0 := by
  refine EV.of (own := RX9) (lv0 := [(0, .ref v0), (1, .int v1)]) (by decide +kernel) rfl rfl (Nat.le_of_ble_eq_true rfl) ?_
  intro p l e s m args below meth c D cA B Hb C hin
  unfold f_X9_isProof at hf0
  have J21 : ∀ (h1 : aH) (t2 : Nat) (t3 : Int32), f_X9_isProof_j21 h1 t2 t3 = some out → gW p l e (rmO 1 0 0) s m args below meth c (MQ below (eQ D cA B Hb out.2 (some (.int out.1))) args s 0 0 (fun q => B ≤ q)) D cA B Hb 3 h1 21 [(0, .ref t2), (1, .int t3)] [] 0 0 := by
    intro h1 t2 t3 hf0
    unfold f_X9_isProof_j21 at hf0
    refine r_iconst (v := 0) C dX9_isProof_21 (by decide) ?_
    refine r_istore_n (lv' := [(2, .int (0 : Int32)), (0, .ref t2), (1, .int t3)]) C dX9_isProof_22 (by decide) rfl rfl ?_
    obtain ⟨y4, hl23, hf0⟩ := ob hf0
    have L23 : ∀ (n : Nat) (t5 : Int32), whileL n (fun q : Int32 => f_X9_isProof_b23 h1 t2 t3 q) t5 = some y4 → gW p l e (rmO 1 0 0) s m args below meth c (MQ below (eQ D cA B Hb out.2 (some (.int out.1))) args s 0 0 (fun q => B ≤ q)) D cA B Hb 3 h1 23 [(0, .ref t2), (1, .int t3), (2, .int t5)] [] 0 0 := by
      intro n
      induction n with
      | zero => intro t5 hz; cases hz
      | succ n ih23 =>
        intro t5 hz
        obtain ⟨x23, hf1, hk23⟩ := wl hz
        replace hf1 : f_X9_isProof_b23 h1 t2 t3 t5 = some x23 := hf1
        unfold f_X9_isProof_b23 at hf1
        refine r_iload_n C dX9_isProof_23 rfl ?_
        refine r_aload_n C dX9_isProof_24 rfl ?_
        obtain ⟨t6, e7, hf1⟩ := ob hf1
        refine r_getI C fk_X9_24 rfl dX9_isProof_25 e7 ?_
        refine r_icmp_ge (tgt := 53) C dX9_isProof_28 (by decide) (fun c8 => ?_) (fun c8 => ?_)
        · rw [if_pos c8] at hf1
          obtain rfl := so hf1
          obtain rfl := so (show some (.inr () : (Int32) ⊕ (Unit)) = some y4 from hk23)
          dsimp only at hf0
          refine r_iconst (v := 1) C dX9_isProof_53 (by decide) ?_
          obtain rfl := so hf0
          exact r_zret C dX9_isProof_54 (Or.inr rfl)
        · rw [if_neg c8] at hf1
          refine r_aload_n C dX9_isProof_31 rfl ?_
          refine r_iload_n C dX9_isProof_32 rfl ?_
          refine r_iload_n C dX9_isProof_33 rfl ?_
          obtain ⟨u10, e9, hf1⟩ := ob hf1
          obtain ⟨t11, e12, hf1⟩ := ob hf1
          refine r_cV (ci := 9) (rest := []) (st2 := [.int t11]) C (s_X9_standsAgainst e12) mk_X9_standsAgainst rfl (ck_k e9) (by decide) im_X9_standsAgainst sl_X9_standsAgainst lk_X9_126 rfl rfl rfl dX9_isProof_34 (Nat.le_of_ble_eq_true rfl) ⟨Nat.le_of_ble_eq_true rfl, Nat.le_of_ble_eq_true rfl⟩ ⟨Nat.le_of_ble_eq_true rfl, Nat.le_of_ble_eq_true rfl⟩ ?_
          refine r_ifeq (tgt := 47) C dX9_isProof_37 (by decide) (fun c13 => ?_) (fun c13 => ?_)
          · rw [if_pos c13] at hf1
            obtain ⟨t14, e15, hf1⟩ := ob hf1
            refine r_iinc (lv' := [(2, .int t14), (0, .ref t2), (1, .int t3)]) C dX9_isProof_47 rfl e15 (by decide) rfl ?_
            refine r_goto (tgt := 23) C dX9_isProof_50 (by decide) ?_
            obtain rfl := so hf1
            refine r_subk [1, 2, 0] (lv' := [(0, .ref t2), (1, .int t3), (2, .int t14)]) rfl ?_
            exact ih23 t14 hk23
          · rw [if_neg c13] at hf1
            obtain rfl := so hf1
            obtain rfl := so (show some (.inl t5 : (Int32) ⊕ (Unit)) = some y4 from hk23)
            dsimp only at hf0
            refine r_aload_n C dX9_isProof_40 rfl ?_
            refine r_iload_n C dX9_isProof_41 rfl ?_
            obtain ⟨h16, e17, hf0⟩ := ob hf0
            refine r_putI C fk_X9_28 dX9_isProof_42 e17 ?_
            refine r_iconst (v := 0) C dX9_isProof_45 (by decide) ?_
            obtain rfl := so hf0
            exact r_zret C dX9_isProof_46 (Or.inl rfl)
    refine r_subk [1, 2, 0] (lv' := [(0, .ref t2), (1, .int t3), (2, .int (0 : Int32))]) rfl ?_
    exact L23 wN (0 : Int32) hl23
  refine r_aload_n C dX9_isProof_0 rfl ?_
  obtain ⟨t18, e19, hf0⟩ := ob hf0
  refine r_getI C fk_X9_24 rfl dX9_isProof_1 e19 ?_
  refine r_ifle (tgt := 21) C dX9_isProof_4 (by decide) (fun c20 => ?_) (fun c20 => ?_)
  · rw [if_pos c20] at hf0
    exact J21 h v0 v1 hf0
  · rw [if_neg c20] at hf0
    refine r_aload_n C dX9_isProof_7 rfl ?_
    refine r_aload_n C dX9_isProof_8 rfl ?_
    obtain ⟨t21, e22, hf0⟩ := ob hf0
    refine r_getI C fk_X9_28 rfl dX9_isProof_9 e22 ?_
    refine r_iload_n C dX9_isProof_12 rfl ?_
    obtain ⟨u24, e23, hf0⟩ := ob hf0
    obtain ⟨t25, e26, hf0⟩ := ob hf0
    refine r_cV (ci := 9) (rest := []) (st2 := [.int t25]) C (s_X9_standsAgainst e26) mk_X9_standsAgainst rfl (ck_k e23) (by decide) im_X9_standsAgainst sl_X9_standsAgainst lk_X9_126 rfl rfl rfl dX9_isProof_13 (Nat.le_of_ble_eq_true rfl) ⟨Nat.le_of_ble_eq_true rfl, Nat.le_of_ble_eq_true rfl⟩ ⟨Nat.le_of_ble_eq_true rfl, Nat.le_of_ble_eq_true rfl⟩ ?_
    refine r_ifeq (tgt := 21) C dX9_isProof_16 (by decide) (fun c27 => ?_) (fun c27 => ?_)
    · rw [if_pos c27] at hf0
      exact J21 h v0 v1 hf0
    · rw [if_neg c27] at hf0
      refine r_iconst (v := 0) C dX9_isProof_19 (by decide) ?_
      obtain rfl := so hf0
      exact r_zret C dX9_isProof_20 (Or.inl rfl)
def f_X9_leastProof_j65 (h : aH) (v0 : Nat) (v3 : Int32) (v4 : Int32) (v5 : Int32) (v6 : Int32) : Option ((Int32 × aH) ⊕ ((Int32 × aH) ⊕ (aH))) := (some (v6 + (1 : Int32))).bind fun t6 => some (.inl (t6, h))
def f_X9_leastProof_b36 (v0 : Nat) (v3 : Int32) (v4 : Int32) (v5 : Int32) (v6 : Int32) (h : aH) : Option ((Int32 × aH) ⊕ ((Int32 × aH) ⊕ (aH))) := if v4 ≤ v6 then some (.inr (.inr h)) else (f_J6_bitCount_0f7a4 h v6).bind fun t7 => if t7 = v5 then (ck h 9 v0).bind fun _ => bd2 (f_X9_isProof h v0 v6) fun t8 h9 => if t8 = 0 then f_X9_leastProof_j65 h9 v0 v3 v4 v5 v6 else some (.inr (.inl (v6, h9))) else f_X9_leastProof_j65 h v0 v3 v4 v5 v6
def f_X9_leastProof_l36 (v0 : Nat) (v3 : Int32) (v4 : Int32) (v5 : Int32) (v6 : Int32) (h : aH) : Option ((Int32 × aH) ⊕ (aH)) := whileL wN (fun q : Int32 × aH => f_X9_leastProof_b36 v0 v3 v4 v5 q.1 q.2) (v6, h)
def f_X9_leastProof_b27 (v0 : Nat) (v3 : Int32) (v4 : Int32) (v5 : Int32) (h : aH) : Option ((Int32 × aH) ⊕ ((Int32 × aH) ⊕ (aH))) := if v3 ≤ v5 then some (.inr (.inr h)) else (f_X9_leastProof_l36 v0 v3 v4 v5 (0 : Int32) h).bind fun e => match e with | .inl (t10, h11) => some (.inr (.inl (t10, h11))) | .inr h12 => (some (v5 + (1 : Int32))).bind fun t13 => some (.inl (t13, h12))
def f_X9_leastProof_l27 (v0 : Nat) (v3 : Int32) (v4 : Int32) (v5 : Int32) (h : aH) : Option ((Int32 × aH) ⊕ (aH)) := whileL wN (fun q : Int32 × aH => f_X9_leastProof_b27 v0 v3 v4 q.1 q.2) (v5, h)
def f_X9_leastProof (h : aH) (v0 : Nat) (v1 : Int32) (v2 : Int32) : Option (Int32 × aH) := (ck h 9 v0).bind fun _ => (f_X9_gatherAgainst h v0 v1 v2).bind fun h1 => (gR h1 9 v0 0).bind fun t2 => (gR h1 3 t2 0).bind fun t3 => (gI h1 6 t3 4).bind fun t4 => (some (((1 : Int32) <<< (t4 &&& 31)) - (1 : Int32))).bind fun t5 => (f_X9_leastProof_l27 v0 t4 t5 (0 : Int32) h1).bind fun e => match e with | .inl (t14, h15) => some (t14, h15) | .inr h16 => some (t5, h16)
theorem s_X9_leastProof {h : aH} {v0 : Nat} {v1 : Int32} {v2 : Int32} {out : Int32 × aH} (hf0 : f_X9_leastProof h v0 v1 v2 = some out) : EV 3 yX9_leastProof cX9_leastProof 7 (some .int) h [.ref v0, .int v1, .int v2] (some (.int out.1)) out.2 0 0 := by
  refine EV.of (own := RX9) (lv0 := [(0, .ref v0), (1, .int v1), (2, .int v2)]) (by decide +kernel) rfl rfl (Nat.le_of_ble_eq_true rfl) ?_
  intro p l e s m args below meth c D cA B Hb C hin
  unfold f_X9_leastProof at hf0
  refine r_aload_n C dX9_leastProof_0 rfl ?_
  refine r_iload_n C dX9_leastProof_1 rfl ?_
  refine r_iload_n C dX9_leastProof_2 rfl ?_
  obtain ⟨u2, e1, hf0⟩ := ob hf0
  obtain ⟨h3, e4, hf0⟩ := ob hf0
  refine r_cV (ci := 9) (rest := []) (st2 := []) C (s_X9_gatherAgainst e4) mk_X9_gatherAgainst rfl (ck_k e1) (by decide) im_X9_gatherAgainst sl_X9_gatherAgainst lk_X9_96 rfl rfl rfl dX9_leastProof_3 (Nat.le_of_ble_eq_true rfl) ⟨Nat.le_of_ble_eq_true rfl, Nat.le_of_ble_eq_true rfl⟩ ⟨Nat.le_of_ble_eq_true rfl, Nat.le_of_ble_eq_true rfl⟩ ?_
  refine r_aload_n C dX9_leastProof_6 rfl ?_
  obtain ⟨t5, e6, hf0⟩ := ob hf0
  refine r_getR C fk_X9_37 rfl dX9_leastProof_7 e6 ?_
  obtain ⟨t7, e8, hf0⟩ := ob hf0
  refine r_getR C fk_X9_100 rfl dX9_leastProof_10 e8 ?_
  obtain ⟨t9, e10, hf0⟩ := ob hf0
  refine r_getI C fk_X9_104 rfl dX9_leastProof_13 e10 ?_
  refine r_istore_n (lv' := [(3, .int t9), (0, .ref v0), (1, .int v1), (2, .int v2)]) C dX9_leastProof_16 (by decide) rfl rfl ?_
  refine r_iconst (v := 1) C dX9_leastProof_17 (by decide) ?_
  refine r_iload_n C dX9_leastProof_18 rfl ?_
  refine r_ishl C dX9_leastProof_19 ?_
  refine r_iconst (v := 1) C dX9_leastProof_20 (by decide) ?_
  refine r_isub C dX9_leastProof_21 ?_
  obtain ⟨t11, e12, hf0⟩ := ob hf0
  refine r_istore (lv' := [(4, .int t11), (3, .int t9), (0, .ref v0), (1, .int v1), (2, .int v2)]) C dX9_leastProof_22 (by decide) e12 rfl ?_
  refine r_iconst (v := 0) C dX9_leastProof_24 (by decide) ?_
  refine r_istore (lv' := [(5, .int (0 : Int32)), (4, .int t11), (3, .int t9), (0, .ref v0), (1, .int v1), (2, .int v2)]) C dX9_leastProof_25 (by decide) rfl rfl ?_
  obtain ⟨y13, hl27, hf0⟩ := ob hf0
  have L27 : ∀ (n : Nat) (t14 : Int32) (h15 : aH), whileL n (fun q : Int32 × aH => f_X9_leastProof_b27 v0 t9 t11 q.1 q.2) (t14, h15) = some y13 → gW p l e (rmO 3 0 0) s m args below meth c (MQ below (eQ D cA B Hb out.2 (some (.int out.1))) args s 0 0 (fun q => B ≤ q)) D cA B Hb 7 h15 27 [(0, .ref v0), (3, .int t9), (4, .int t11), (5, .int t14)] [] 0 0 := by
    intro n
    induction n with
    | zero => intro t14 h15 hz; cases hz
    | succ n ih27 =>
      intro t14 h15 hz
      obtain ⟨x27, hf1, hk27⟩ := wl hz
      replace hf1 : f_X9_leastProof_b27 v0 t9 t11 t14 h15 = some x27 := hf1
      unfold f_X9_leastProof_b27 at hf1
      refine r_iload C dX9_leastProof_27 rfl ?_
      refine r_iload_n C dX9_leastProof_29 rfl ?_
      refine r_icmp_ge (tgt := 77) C dX9_leastProof_30 (by decide) (fun c16 => ?_) (fun c16 => ?_)
      · rw [if_pos c16] at hf1
        obtain rfl := so hf1
        obtain rfl := so (show some (.inr h15 : (Int32 × aH) ⊕ (aH)) = some y13 from hk27)
        dsimp only at hf0
        refine r_iload C dX9_leastProof_77 rfl ?_
        obtain rfl := so hf0
        exact r_iret C dX9_leastProof_79
      · rw [if_neg c16] at hf1
        refine r_iconst (v := 0) C dX9_leastProof_33 (by decide) ?_
        refine r_istore (lv' := [(6, .int (0 : Int32)), (0, .ref v0), (3, .int t9), (4, .int t11), (5, .int t14)]) C dX9_leastProof_34 (by decide) rfl rfl ?_
        obtain ⟨y17, hl36, hf1⟩ := ob hf1
        have L36 : ∀ (n : Nat) (t18 : Int32) (h19 : aH), whileL n (fun q : Int32 × aH => f_X9_leastProof_b36 v0 t9 t11 t14 q.1 q.2) (t18, h19) = some y17 → gW p l e (rmO 3 0 0) s m args below meth c (MQ below (eQ D cA B Hb out.2 (some (.int out.1))) args s 0 0 (fun q => B ≤ q)) D cA B Hb 7 h19 36 [(0, .ref v0), (3, .int t9), (4, .int t11), (5, .int t14), (6, .int t18)] [] 0 0 := by
          intro n
          induction n with
          | zero => intro t18 h19 hz; cases hz
          | succ n ih36 =>
            intro t18 h19 hz
            obtain ⟨x36, hf2, hk36⟩ := wl hz
            replace hf2 : f_X9_leastProof_b36 v0 t9 t11 t14 t18 h19 = some x36 := hf2
            unfold f_X9_leastProof_b36 at hf2
            have J65 : ∀ (h20 : aH) (t21 : Int32), f_X9_leastProof_j65 h20 v0 t9 t11 t14 t21 = some x36 → gW p l e (rmO 3 0 0) s m args below meth c (MQ below (eQ D cA B Hb out.2 (some (.int out.1))) args s 0 0 (fun q => B ≤ q)) D cA B Hb 7 h20 65 [(0, .ref v0), (3, .int t9), (4, .int t11), (5, .int t14), (6, .int t21)] [] 0 0 := by
              intro h20 t21 hf2
              unfold f_X9_leastProof_j65 at hf2
              obtain ⟨t22, e23, hf2⟩ := ob hf2
              refine r_iinc (lv' := [(6, .int t22), (0, .ref v0), (3, .int t9), (4, .int t11), (5, .int t14)]) C dX9_leastProof_65 rfl e23 (by decide) rfl ?_
              refine r_goto (tgt := 36) C dX9_leastProof_68 (by decide) ?_
              obtain rfl := so hf2
              refine r_subk [1, 2, 3, 4, 0] (lv' := [(0, .ref v0), (3, .int t9), (4, .int t11), (5, .int t14), (6, .int t22)]) rfl ?_
              exact ih36 t22 h20 hk36
            refine r_iload C dX9_leastProof_36 rfl ?_
            refine r_iload C dX9_leastProof_38 rfl ?_
            refine r_icmp_ge (tgt := 71) C dX9_leastProof_40 (by decide) (fun c24 => ?_) (fun c24 => ?_)
            · rw [if_pos c24] at hf2
              obtain rfl := so hf2
              obtain rfl := so (show some (.inr h19 : (Int32 × aH) ⊕ (aH)) = some y17 from hk36)
              dsimp only at hf1
              obtain ⟨t25, e26, hf1⟩ := ob hf1
              refine r_iinc (lv' := [(5, .int t25), (0, .ref v0), (3, .int t9), (4, .int t11), (6, .int t18)]) C dX9_leastProof_71 rfl e26 (by decide) rfl ?_
              refine r_goto (tgt := 27) C dX9_leastProof_74 (by decide) ?_
              obtain rfl := so hf1
              refine r_subk [1, 2, 3, 0] (lv' := [(0, .ref v0), (3, .int t9), (4, .int t11), (5, .int t25)]) rfl ?_
              exact ih27 t25 h19 hk27
            · rw [if_neg c24] at hf2
              refine r_iload C dX9_leastProof_43 rfl ?_
              obtain ⟨t27, e28, hf2⟩ := ob hf2
              refine r_cS (rest := []) (st2 := [.int t27]) C (s_J6_bitCount_0f7a4 e28) mk_J6_bitCount_0f7a4 sm_J6_bitCount_0f7a4 lk_X9_109 rfl rfl rfl dX9_leastProof_45 (Nat.le_of_ble_eq_true rfl) ⟨Nat.le_of_ble_eq_true rfl, Nat.le_of_ble_eq_true rfl⟩ ⟨Nat.le_of_ble_eq_true rfl, Nat.le_of_ble_eq_true rfl⟩ ?_
              refine r_iload C dX9_leastProof_48 rfl ?_
              refine r_icmp_ne (tgt := 65) C dX9_leastProof_50 (by decide) (fun c29 => ?_) (fun c29 => ?_)
              · rw [if_neg c29] at hf2
                exact J65 h19 t18 hf2
              · rw [if_pos c29] at hf2
                refine r_aload_n C dX9_leastProof_53 rfl ?_
                refine r_iload C dX9_leastProof_54 rfl ?_
                obtain ⟨u31, e30, hf2⟩ := ob hf2
                obtain ⟨t32, h33, e34, hf2⟩ := ob2 hf2
                refine r_cV (ci := 9) (rest := []) (st2 := [.int t32]) C (s_X9_isProof e34) mk_X9_isProof rfl (ck_k e30) (by decide) im_X9_isProof sl_X9_isProof lk_X9_115 rfl rfl rfl dX9_leastProof_56 (Nat.le_of_ble_eq_true rfl) ⟨Nat.le_of_ble_eq_true rfl, Nat.le_of_ble_eq_true rfl⟩ ⟨Nat.le_of_ble_eq_true rfl, Nat.le_of_ble_eq_true rfl⟩ ?_
                refine r_ifeq (tgt := 65) C dX9_leastProof_59 (by decide) (fun c35 => ?_) (fun c35 => ?_)
                · rw [if_pos c35] at hf2
                  exact J65 h33 t18 hf2
                · rw [if_neg c35] at hf2
                  obtain rfl := so hf2
                  obtain rfl := so (show some (.inl (t18, h33) : (Int32 × aH) ⊕ (aH)) = some y17 from hk36)
                  dsimp only at hf1
                  obtain rfl := so hf1
                  obtain rfl := so (show some (.inl (t18, h33) : (Int32 × aH) ⊕ (aH)) = some y13 from hk27)
                  dsimp only at hf0
                  refine r_iload C dX9_leastProof_62 rfl ?_
                  obtain rfl := so hf0
                  exact r_iret C dX9_leastProof_64
        refine r_subk [1, 2, 3, 4, 0] (lv' := [(0, .ref v0), (3, .int t9), (4, .int t11), (5, .int t14), (6, .int (0 : Int32))]) rfl ?_
        exact L36 wN (0 : Int32) h15 hl36
  refine r_subk [3, 2, 1, 0] (lv' := [(0, .ref v0), (3, .int t9), (4, .int t11), (5, .int (0 : Int32))]) rfl ?_
  exact L27 wN (0 : Int32) h3 hl27
def f_X10_init (h : aH) (v0 : Nat) (v1 : Nat) : Option (aH) := bd2 (nwO h 20 4) fun t1 h2 => (pR h2 10 v0 1 t1).bind fun h3 => (pI h3 10 v0 2 (0 : Int32)).bind fun h4 => (pI h4 10 v0 3 (0 : Int32)).bind fun h5 => bd2 (nwO h5 3 7) fun t6 h7 => (f_X3_init h7 t6 v1).bind fun h8 => (pR h8 10 v0 0 t6).bind fun h9 => some h9
theorem s_X10_init {h : aH} {v0 : Nat} {v1 : Nat} {out : aH} (hf0 : f_X10_init h v0 v1 = some out) : EV 5 yX10_init cX10_init 2 none h [.ref v0, .ref v1] none out 10 601 := by
  refine EV.of (own := RX10) (lv0 := [(0, .ref v0), (1, .ref v1)]) (by decide +kernel) rfl rfl (Nat.le_of_ble_eq_true rfl) ?_
  intro p l e s m args below meth c D cA B Hb C hin
  unfold f_X10_init at hf0
  refine r_aload_n C dX10_init_0 rfl ?_
  refine r_obj C lk_X10_3 dX10_init_1 ⟨Nat.le_of_ble_eq_true rfl, Nat.le_of_ble_eq_true rfl⟩ (Nat.le_of_ble_eq_true rfl) ?_
  refine r_aload_n C dX10_init_4 rfl ?_
  refine r_iconst (v := 4) C dX10_init_5 (by decide) ?_
  obtain ⟨t1, h2, e3, hf0⟩ := ob2 hf0
  refine r_newIE C dX10_init_6 (by decide) (by decide) (by decide) ⟨Nat.le_of_ble_eq_true rfl, Nat.le_of_ble_eq_true rfl⟩ e3 ?_
  obtain ⟨h4, e5, hf0⟩ := ob hf0
  refine r_putFR C fk_X10_9 ⟨_, _, rfl⟩ (Or.inr ⟨_, rfl⟩) hin dX10_init_8 e5 ?_
  refine r_aload_n C dX10_init_11 rfl ?_
  refine r_iconst (v := 0) C dX10_init_12 (by decide) ?_
  obtain ⟨h6, e7, hf0⟩ := ob hf0
  refine r_putI C fk_X10_15 dX10_init_13 e7 ?_
  refine r_aload_n C dX10_init_16 rfl ?_
  refine r_iconst (v := 0) C dX10_init_17 (by decide) ?_
  obtain ⟨h8, e9, hf0⟩ := ob hf0
  refine r_putI C fk_X10_19 dX10_init_18 e9 ?_
  refine r_aload_n C dX10_init_21 rfl ?_
  obtain ⟨t10, h11, e12, hf0⟩ := ob2 hf0
  refine r_newE C nk_X10_22 dX10_init_22 ⟨Nat.le_of_ble_eq_true rfl, Nat.le_of_ble_eq_true rfl⟩ e12 ?_
  refine r_dup C dX10_init_25 rfl ?_
  refine r_aload_n C dX10_init_26 rfl ?_
  obtain ⟨h13, e14, hf0⟩ := ob hf0
  refine r_callI (rest := [.ref t10, .ref v0]) C (s_X3_init e14) mk_X3_init rfl im_X3_init lk_X10_24 rfl rfl dX10_init_27 (Nat.le_of_ble_eq_true rfl) ⟨Nat.le_of_ble_eq_true rfl, Nat.le_of_ble_eq_true rfl⟩ ⟨Nat.le_of_ble_eq_true rfl, Nat.le_of_ble_eq_true rfl⟩ ?_
  obtain ⟨h15, e16, hf0⟩ := ob hf0
  refine r_putFR C fk_X10_27 ⟨_, _, rfl⟩ (Or.inl ⟨_, rfl⟩) hin dX10_init_30 e16 ?_
  obtain rfl := so hf0
  exact r_vret C dX10_init_33
def f_X10_draw (h : aH) (v0 : Nat) (v1 : Int32) : Option (Int32 × aH) := (gI h 10 v0 3).bind fun t1 => (nz (65536 : Int32)).bind fun _ => (pI h 10 v0 3 (((t1 * (2417 : Int32)) + (10613 : Int32)) - ((t1 * (2417 : Int32)) + (10613 : Int32)) / (65536 : Int32) * (65536 : Int32))).bind fun h2 => if v1 ≤ 0 then some ((0 : Int32), h2) else (gI h2 10 v0 3).bind fun t3 => (nz (8 : Int32)).bind fun _ => (nz v1).bind fun _ => some ((t3 / (8 : Int32)) - (t3 / (8 : Int32)) / v1 * v1, h2)
theorem s_X10_draw {h : aH} {v0 : Nat} {v1 : Int32} {out : Int32 × aH} (hf0 : f_X10_draw h v0 v1 = some out) : EV 0 yX10_draw cX10_draw 2 (some .int) h [.ref v0, .int v1] (some (.int out.1)) out.2 0 0 := by
  refine EV.of (own := RX10) (lv0 := [(0, .ref v0), (1, .int v1)]) (by decide +kernel) rfl rfl (Nat.le_of_ble_eq_true rfl) ?_
  intro p l e s m args below meth c D cA B Hb C hin
  unfold f_X10_draw at hf0
  refine r_aload_n C dX10_draw_0 rfl ?_
  refine r_aload_n C dX10_draw_1 rfl ?_
  obtain ⟨t1, e2, hf0⟩ := ob hf0
  refine r_getI C fk_X10_19 rfl dX10_draw_2 e2 ?_
  refine r_sipush (v := 2417) C dX10_draw_5 (by decide) ?_
  refine r_imul C dX10_draw_8 ?_
  refine r_sipush (v := 10613) C dX10_draw_9 (by decide) ?_
  refine r_iadd C dX10_draw_12 ?_
  refine r_ldc (v := 65536) C dX10_draw_13 cn_X10_100 ?_
  obtain ⟨u4, e3, hf0⟩ := ob hf0
  refine r_irem C dX10_draw_15 (nz_k e3) ?_
  obtain ⟨h5, e6, hf0⟩ := ob hf0
  refine r_putI C fk_X10_19 dX10_draw_16 e6 ?_
  refine r_iload_n C dX10_draw_19 rfl ?_
  refine r_ifle (tgt := 35) C dX10_draw_20 (by decide) (fun c7 => ?_) (fun c7 => ?_)
  · rw [if_pos c7] at hf0
    refine r_iconst (v := 0) C dX10_draw_35 (by decide) ?_
    obtain rfl := so hf0
    exact r_iret C dX10_draw_36
  · rw [if_neg c7] at hf0
    refine r_aload_n C dX10_draw_23 rfl ?_
    obtain ⟨t8, e9, hf0⟩ := ob hf0
    refine r_getI C fk_X10_19 rfl dX10_draw_24 e9 ?_
    refine r_bipush (v := 8) C dX10_draw_27 (by decide) ?_
    obtain ⟨u11, e10, hf0⟩ := ob hf0
    refine r_idiv C dX10_draw_29 (nz_k e10) ?_
    refine r_iload_n C dX10_draw_30 rfl ?_
    obtain ⟨u13, e12, hf0⟩ := ob hf0
    refine r_irem C dX10_draw_31 (nz_k e12) ?_
    refine r_goto (tgt := 36) C dX10_draw_32 (by decide) ?_
    obtain rfl := so hf0
    exact r_iret C dX10_draw_36
def f_X10_firstAbove_b6 (h : aH) (v0 : Nat) (v1 : Int32) (v2 : Int32) (v3 : Int32) (v4 : Int32) (v5 : Int32) : Option ((Int32 × Int32) ⊕ ((Int32) ⊕ (Unit))) := if v2 ≤ v5 then some (.inr (.inr ())) else (lI h v0 (v1 + v5)).bind fun t1 => (some (v4 + t1)).bind fun t2 => if t2 ≤ v3 then (some (v5 + (1 : Int32))).bind fun t3 => some (.inl (t2, t3)) else some (.inr (.inl v5))
def f_X10_firstAbove_l6 (h : aH) (v0 : Nat) (v1 : Int32) (v2 : Int32) (v3 : Int32) (v4 : Int32) (v5 : Int32) : Option ((Int32) ⊕ (Unit)) := whileL wN (fun q : Int32 × Int32 => f_X10_firstAbove_b6 h v0 v1 v2 v3 q.1 q.2) (v4, v5)
def f_X10_firstAbove (h : aH) (v0 : Nat) (v1 : Int32) (v2 : Int32) (v3 : Int32) : Option (Int32) := (f_X10_firstAbove_l6 h v0 v1 v2 v3 (0 : Int32) (0 : Int32)).bind fun e => match e with | .inl t4 => some t4 | .inr _ => some (0 : Int32)
theorem s_X10_firstAbove {h : aH} {v0 : Nat} {v1 : Int32} {v2 : Int32} {v3 : Int32} {out : Int32} (hf0 : f_X10_firstAbove h v0 v1 v2 v3 = some out) : EV 0 yX10_firstAbove cX10_firstAbove 6 (some .int) h [.ref v0, .int v1, .int v2, .int v3] (some (.int out)) h 0 0 := by
  refine EV.of (own := RX10) (lv0 := [(0, .ref v0), (1, .int v1), (2, .int v2), (3, .int v3)]) (by decide +kernel) rfl rfl (Nat.le_of_ble_eq_true rfl) ?_
  intro p l e s m args below meth c D cA B Hb C hin
  unfold f_X10_firstAbove at hf0
  refine r_iconst (v := 0) C dX10_firstAbove_0 (by decide) ?_
  refine r_istore (lv' := [(4, .int (0 : Int32)), (0, .ref v0), (1, .int v1), (2, .int v2), (3, .int v3)]) C dX10_firstAbove_1 (by decide) rfl rfl ?_
  refine r_iconst (v := 0) C dX10_firstAbove_3 (by decide) ?_
  refine r_istore (lv' := [(5, .int (0 : Int32)), (4, .int (0 : Int32)), (0, .ref v0), (1, .int v1), (2, .int v2), (3, .int v3)]) C dX10_firstAbove_4 (by decide) rfl rfl ?_
  obtain ⟨y1, hl6, hf0⟩ := ob hf0
  have L6 : ∀ (n : Nat) (t2 : Int32) (t3 : Int32), whileL n (fun q : Int32 × Int32 => f_X10_firstAbove_b6 h v0 v1 v2 v3 q.1 q.2) (t2, t3) = some y1 → gW p l e (rmO 0 0 0) s m args below meth c (MQ below (eQ D cA B Hb h (some (.int out))) args s 0 0 (fun q => B ≤ q)) D cA B Hb 6 h 6 [(0, .ref v0), (1, .int v1), (2, .int v2), (3, .int v3), (4, .int t2), (5, .int t3)] [] 0 0 := by
    intro n
    induction n with
    | zero => intro t2 t3 hz; cases hz
    | succ n ih6 =>
      intro t2 t3 hz
      obtain ⟨x6, hf1, hk6⟩ := wl hz
      replace hf1 : f_X10_firstAbove_b6 h v0 v1 v2 v3 t2 t3 = some x6 := hf1
      unfold f_X10_firstAbove_b6 at hf1
      refine r_iload C dX10_firstAbove_6 rfl ?_
      refine r_iload_n C dX10_firstAbove_8 rfl ?_
      refine r_icmp_ge (tgt := 38) C dX10_firstAbove_9 (by decide) (fun c4 => ?_) (fun c4 => ?_)
      · rw [if_pos c4] at hf1
        obtain rfl := so hf1
        obtain rfl := so (show some (.inr () : (Int32) ⊕ (Unit)) = some y1 from hk6)
        dsimp only at hf0
        refine r_iconst (v := 0) C dX10_firstAbove_38 (by decide) ?_
        obtain rfl := so hf0
        exact r_iret C dX10_firstAbove_39
      · rw [if_neg c4] at hf1
        refine r_iload C dX10_firstAbove_12 rfl ?_
        refine r_aload_n C dX10_firstAbove_14 rfl ?_
        refine r_iload_n C dX10_firstAbove_15 rfl ?_
        refine r_iload C dX10_firstAbove_16 rfl ?_
        refine r_iadd C dX10_firstAbove_18 ?_
        obtain ⟨t5, e6, hf1⟩ := ob hf1
        refine r_ldI C dX10_firstAbove_19 e6 ?_
        refine r_iadd C dX10_firstAbove_20 ?_
        obtain ⟨t7, e8, hf1⟩ := ob hf1
        refine r_istore (lv' := [(4, .int t7), (0, .ref v0), (1, .int v1), (2, .int v2), (3, .int v3), (5, .int t3)]) C dX10_firstAbove_21 (by decide) e8 rfl ?_
        refine r_iload C dX10_firstAbove_23 rfl ?_
        refine r_iload_n C dX10_firstAbove_25 rfl ?_
        refine r_icmp_le (tgt := 32) C dX10_firstAbove_26 (by decide) (fun c9 => ?_) (fun c9 => ?_)
        · rw [if_pos c9] at hf1
          obtain ⟨t10, e11, hf1⟩ := ob hf1
          refine r_iinc (lv' := [(5, .int t10), (4, .int t7), (0, .ref v0), (1, .int v1), (2, .int v2), (3, .int v3)]) C dX10_firstAbove_32 rfl e11 (by decide) rfl ?_
          refine r_goto (tgt := 6) C dX10_firstAbove_35 (by decide) ?_
          obtain rfl := so hf1
          refine r_subk [2, 3, 4, 5, 1, 0] (lv' := [(0, .ref v0), (1, .int v1), (2, .int v2), (3, .int v3), (4, .int t7), (5, .int t10)]) rfl ?_
          exact ih6 t7 t10 hk6
        · rw [if_neg c9] at hf1
          obtain rfl := so hf1
          obtain rfl := so (show some (.inl t3 : (Int32) ⊕ (Unit)) = some y1 from hk6)
          dsimp only at hf0
          refine r_iload C dX10_firstAbove_29 rfl ?_
          obtain rfl := so hf0
          exact r_iret C dX10_firstAbove_31
  refine r_subk [2, 3, 4, 5, 1, 0] (lv' := [(0, .ref v0), (1, .int v1), (2, .int v2), (3, .int v3), (4, .int (0 : Int32)), (5, .int (0 : Int32))]) rfl ?_
  exact L6 wN (0 : Int32) (0 : Int32) hl6
def f_X10_drawTruth_b10 (h : aH) (v0 : Nat) (v1 : Nat) (v3 : Int32) (v4 : Int32) : Option ((Int32 × Int32) ⊕ (Int32)) := (gI h 1 v1 14).bind fun t2 => if t2 ≤ v4 then some (.inr v3) else (gR h 1 v1 5).bind fun t3 => (lI h t3 v4).bind fun t4 => (some (v3 + t4)).bind fun t5 => (some (v4 + (1 : Int32))).bind fun t6 => some (.inl (t5, t6))
def f_X10_drawTruth_l10 (h : aH) (v0 : Nat) (v1 : Nat) (v3 : Int32) (v4 : Int32) : Option (Int32) := whileL wN (fun q : Int32 × Int32 => f_X10_drawTruth_b10 h v0 v1 q.1 q.2) (v3, v4)
def f_X10_drawTruth_b59 (v0 : Nat) (v1 : Nat) (v4 : Int32) (h : aH) : Option ((Int32 × aH) ⊕ (aH)) := (gI h 1 v1 17).bind fun t14 => if t14 ≤ v4 then some (.inr h) else (gR h 10 v0 1).bind fun t15 => (gR h 1 v1 8).bind fun t16 => (ck h 10 v0).bind fun _ => bd2 (f_X10_draw h v0 (16 : Int32)) fun t17 h18 => (f_X10_firstAbove h18 t16 (v4 * (4 : Int32)) (4 : Int32) t17).bind fun t19 => (sI h18 t15 v4 t19).bind fun h20 => (some (v4 + (1 : Int32))).bind fun t21 => some (.inl (t21, h20))
def f_X10_drawTruth_l59 (v0 : Nat) (v1 : Nat) (v4 : Int32) (h : aH) : Option (aH) := whileL wN (fun q : Int32 × aH => f_X10_drawTruth_b59 v0 v1 q.1 q.2) (v4, h)
def f_X10_drawTruth (h : aH) (v0 : Nat) (v1 : Nat) (v2 : Int32) : Option (aH) := (pI h 10 v0 3 v2).bind fun h1 => (f_X10_drawTruth_l10 h1 v0 v1 (0 : Int32) (0 : Int32)).bind fun t7 => (gR h1 1 v1 5).bind fun t8 => (gI h1 1 v1 14).bind fun t9 => (ck h1 10 v0).bind fun _ => bd2 (f_X10_draw h1 v0 t7) fun t10 h11 => (f_X10_firstAbove h11 t8 (0 : Int32) t9 t10).bind fun t12 => (pI h11 10 v0 2 t12).bind fun h13 => (f_X10_drawTruth_l59 v0 v1 (0 : Int32) h13).bind fun h22 => some h22
theorem s_X10_drawTruth {h : aH} {v0 : Nat} {v1 : Nat} {v2 : Int32} {out : aH} (hf0 : f_X10_drawTruth h v0 v1 v2 = some out) : EV 1 yX10_drawTruth cX10_drawTruth 5 none h [.ref v0, .ref v1, .int v2] none out 0 0 := by
  refine EV.of (own := RX10) (lv0 := [(0, .ref v0), (1, .ref v1), (2, .int v2)]) (by decide +kernel) rfl rfl (Nat.le_of_ble_eq_true rfl) ?_
  intro p l e s m args below meth c D cA B Hb C hin
  unfold f_X10_drawTruth at hf0
  refine r_aload_n C dX10_drawTruth_0 rfl ?_
  refine r_iload_n C dX10_drawTruth_1 rfl ?_
  obtain ⟨h1, e2, hf0⟩ := ob hf0
  refine r_putI C fk_X10_19 dX10_drawTruth_2 e2 ?_
  refine r_iconst (v := 0) C dX10_drawTruth_5 (by decide) ?_
  refine r_istore_n (lv' := [(3, .int (0 : Int32)), (0, .ref v0), (1, .ref v1), (2, .int v2)]) C dX10_drawTruth_6 (by decide) rfl rfl ?_
  refine r_iconst (v := 0) C dX10_drawTruth_7 (by decide) ?_
  refine r_istore (lv' := [(4, .int (0 : Int32)), (3, .int (0 : Int32)), (0, .ref v0), (1, .ref v1), (2, .int v2)]) C dX10_drawTruth_8 (by decide) rfl rfl ?_
  obtain ⟨y3, hl10, hf0⟩ := ob hf0
  have L10 : ∀ (n : Nat) (t4 : Int32) (t5 : Int32), whileL n (fun q : Int32 × Int32 => f_X10_drawTruth_b10 h1 v0 v1 q.1 q.2) (t4, t5) = some y3 → gW p l e (rmO 1 0 0) s m args below meth c (MQ below (eQ D cA B Hb out none) args s 0 0 (fun q => B ≤ q)) D cA B Hb 5 h1 10 [(0, .ref v0), (1, .ref v1), (3, .int t4), (4, .int t5)] [] 0 0 := by
    intro n
    induction n with
    | zero => intro t4 t5 hz; cases hz
    | succ n ih10 =>
      intro t4 t5 hz
      obtain ⟨x10, hf1, hk10⟩ := wl hz
      replace hf1 : f_X10_drawTruth_b10 h1 v0 v1 t4 t5 = some x10 := hf1
      unfold f_X10_drawTruth_b10 at hf1
      refine r_iload C dX10_drawTruth_10 rfl ?_
      refine r_aload_n C dX10_drawTruth_12 rfl ?_
      obtain ⟨t6, e7, hf1⟩ := ob hf1
      refine r_getI C fk_X10_79 rfl dX10_drawTruth_13 e7 ?_
      refine r_icmp_ge (tgt := 35) C dX10_drawTruth_16 (by decide) (fun c8 => ?_) (fun c8 => ?_)
      · rw [if_pos c8] at hf1
        obtain rfl := so hf1
        obtain rfl := so (show some t4 = some y3 from hk10)
        refine r_aload_n C dX10_drawTruth_35 rfl ?_
        refine r_aload_n C dX10_drawTruth_36 rfl ?_
        obtain ⟨t9, e10, hf0⟩ := ob hf0
        refine r_getR C fk_X10_84 rfl dX10_drawTruth_37 e10 ?_
        refine r_iconst (v := 0) C dX10_drawTruth_40 (by decide) ?_
        refine r_aload_n C dX10_drawTruth_41 rfl ?_
        obtain ⟨t11, e12, hf0⟩ := ob hf0
        refine r_getI C fk_X10_79 rfl dX10_drawTruth_42 e12 ?_
        refine r_aload_n C dX10_drawTruth_45 rfl ?_
        refine r_iload_n C dX10_drawTruth_46 rfl ?_
        obtain ⟨u14, e13, hf0⟩ := ob hf0
        obtain ⟨t15, h16, e17, hf0⟩ := ob2 hf0
        refine r_cV (ci := 10) (rest := [.int t11, .int (0 : Int32), .ref t9, .ref v0]) (st2 := [.int t15, .int t11, .int (0 : Int32), .ref t9, .ref v0]) C (s_X10_draw e17) mk_X10_draw rfl (ck_k e13) (by decide) im_X10_draw sl_X10_draw lk_X10_87 rfl rfl rfl dX10_drawTruth_47 (Nat.le_of_ble_eq_true rfl) ⟨Nat.le_of_ble_eq_true rfl, Nat.le_of_ble_eq_true rfl⟩ ⟨Nat.le_of_ble_eq_true rfl, Nat.le_of_ble_eq_true rfl⟩ ?_
        obtain ⟨t18, e19, hf0⟩ := ob hf0
        refine r_cS (rest := [.ref v0]) (st2 := [.int t18, .ref v0]) C (s_X10_firstAbove e19) mk_X10_firstAbove sm_X10_firstAbove lk_X10_90 rfl rfl rfl dX10_drawTruth_50 (Nat.le_of_ble_eq_true rfl) ⟨Nat.le_of_ble_eq_true rfl, Nat.le_of_ble_eq_true rfl⟩ ⟨Nat.le_of_ble_eq_true rfl, Nat.le_of_ble_eq_true rfl⟩ ?_
        obtain ⟨h20, e21, hf0⟩ := ob hf0
        refine r_putI C fk_X10_15 dX10_drawTruth_53 e21 ?_
        refine r_iconst (v := 0) C dX10_drawTruth_56 (by decide) ?_
        refine r_istore (lv' := [(4, .int (0 : Int32)), (0, .ref v0), (1, .ref v1), (3, .int t4)]) C dX10_drawTruth_57 (by decide) rfl rfl ?_
        obtain ⟨y22, hl59, hf0⟩ := ob hf0
        have L59 : ∀ (n : Nat) (t23 : Int32) (h24 : aH), whileL n (fun q : Int32 × aH => f_X10_drawTruth_b59 v0 v1 q.1 q.2) (t23, h24) = some y22 → gW p l e (rmO 1 0 0) s m args below meth c (MQ below (eQ D cA B Hb out none) args s 0 0 (fun q => B ≤ q)) D cA B Hb 5 h24 59 [(0, .ref v0), (1, .ref v1), (4, .int t23)] [] 0 0 := by
          intro n
          induction n with
          | zero => intro t23 h24 hz; cases hz
          | succ n ih59 =>
            intro t23 h24 hz
            obtain ⟨x59, hf1, hk59⟩ := wl hz
            replace hf1 : f_X10_drawTruth_b59 v0 v1 t23 h24 = some x59 := hf1
            unfold f_X10_drawTruth_b59 at hf1
            refine r_iload C dX10_drawTruth_59 rfl ?_
            refine r_aload_n C dX10_drawTruth_61 rfl ?_
            obtain ⟨t25, e26, hf1⟩ := ob hf1
            refine r_getI C fk_X10_94 rfl dX10_drawTruth_62 e26 ?_
            refine r_icmp_ge (tgt := 99) C dX10_drawTruth_65 (by decide) (fun c27 => ?_) (fun c27 => ?_)
            · rw [if_pos c27] at hf1
              obtain rfl := so hf1
              obtain rfl := so (show some h24 = some y22 from hk59)
              obtain rfl := so hf0
              exact r_vret C dX10_drawTruth_99
            · rw [if_neg c27] at hf1
              refine r_aload_n C dX10_drawTruth_68 rfl ?_
              obtain ⟨t28, e29, hf1⟩ := ob hf1
              refine r_getR C fk_X10_9 rfl dX10_drawTruth_69 e29 ?_
              refine r_iload C dX10_drawTruth_72 rfl ?_
              refine r_aload_n C dX10_drawTruth_74 rfl ?_
              obtain ⟨t30, e31, hf1⟩ := ob hf1
              refine r_getR C fk_X10_97 rfl dX10_drawTruth_75 e31 ?_
              refine r_iload C dX10_drawTruth_78 rfl ?_
              refine r_iconst (v := 4) C dX10_drawTruth_80 (by decide) ?_
              refine r_imul C dX10_drawTruth_81 ?_
              refine r_iconst (v := 4) C dX10_drawTruth_82 (by decide) ?_
              refine r_aload_n C dX10_drawTruth_83 rfl ?_
              refine r_bipush (v := 16) C dX10_drawTruth_84 (by decide) ?_
              obtain ⟨u33, e32, hf1⟩ := ob hf1
              obtain ⟨t34, h35, e36, hf1⟩ := ob2 hf1
              refine r_cV (ci := 10) (rest := [.int (4 : Int32), .int (t23 * (4 : Int32)), .ref t30, .int t23, .ref t28]) (st2 := [.int t34, .int (4 : Int32), .int (t23 * (4 : Int32)), .ref t30, .int t23, .ref t28]) C (s_X10_draw e36) mk_X10_draw rfl (ck_k e32) (by decide) im_X10_draw sl_X10_draw lk_X10_87 rfl rfl rfl dX10_drawTruth_86 (Nat.le_of_ble_eq_true rfl) ⟨Nat.le_of_ble_eq_true rfl, Nat.le_of_ble_eq_true rfl⟩ ⟨Nat.le_of_ble_eq_true rfl, Nat.le_of_ble_eq_true rfl⟩ ?_
              obtain ⟨t37, e38, hf1⟩ := ob hf1
              refine r_cS (rest := [.int t23, .ref t28]) (st2 := [.int t37, .int t23, .ref t28]) C (s_X10_firstAbove e38) mk_X10_firstAbove sm_X10_firstAbove lk_X10_90 rfl rfl rfl dX10_drawTruth_89 (Nat.le_of_ble_eq_true rfl) ⟨Nat.le_of_ble_eq_true rfl, Nat.le_of_ble_eq_true rfl⟩ ⟨Nat.le_of_ble_eq_true rfl, Nat.le_of_ble_eq_true rfl⟩ ?_
              obtain ⟨h39, e40, hf1⟩ := ob hf1
              refine r_stI C dX10_drawTruth_92 e40 ?_
              obtain ⟨t41, e42, hf1⟩ := ob hf1
              refine r_iinc (lv' := [(4, .int t41), (0, .ref v0), (1, .ref v1)]) C dX10_drawTruth_93 rfl e42 (by decide) rfl ?_
              refine r_goto (tgt := 59) C dX10_drawTruth_96 (by decide) ?_
              obtain rfl := so hf1
              refine r_subk [1, 2, 0] (lv' := [(0, .ref v0), (1, .ref v1), (4, .int t41)]) rfl ?_
              exact ih59 t41 h39 hk59
        refine r_subk [1, 2, 0] (lv' := [(0, .ref v0), (1, .ref v1), (4, .int (0 : Int32))]) rfl ?_
        exact L59 wN (0 : Int32) h20 hl59
      · rw [if_neg c8] at hf1
        refine r_iload_n C dX10_drawTruth_19 rfl ?_
        refine r_aload_n C dX10_drawTruth_20 rfl ?_
        obtain ⟨t43, e44, hf1⟩ := ob hf1
        refine r_getR C fk_X10_84 rfl dX10_drawTruth_21 e44 ?_
        refine r_iload C dX10_drawTruth_24 rfl ?_
        obtain ⟨t45, e46, hf1⟩ := ob hf1
        refine r_ldI C dX10_drawTruth_26 e46 ?_
        refine r_iadd C dX10_drawTruth_27 ?_
        obtain ⟨t47, e48, hf1⟩ := ob hf1
        refine r_istore_n (lv' := [(3, .int t47), (0, .ref v0), (1, .ref v1), (4, .int t5)]) C dX10_drawTruth_28 (by decide) e48 rfl ?_
        obtain ⟨t49, e50, hf1⟩ := ob hf1
        refine r_iinc (lv' := [(4, .int t49), (3, .int t47), (0, .ref v0), (1, .ref v1)]) C dX10_drawTruth_29 rfl e50 (by decide) rfl ?_
        refine r_goto (tgt := 10) C dX10_drawTruth_32 (by decide) ?_
        obtain rfl := so hf1
        refine r_subk [2, 3, 1, 0] (lv' := [(0, .ref v0), (1, .ref v1), (3, .int t47), (4, .int t49)]) rfl ?_
        exact ih10 t47 t49 hk10
  refine r_subk [2, 3, 1, 0] (lv' := [(0, .ref v0), (1, .ref v1), (3, .int (0 : Int32)), (4, .int (0 : Int32))]) rfl ?_
  exact L10 wN (0 : Int32) (0 : Int32) hl10
def f_X10_put (h : aH) (v0 : Nat) (v1 : Int32) (v2 : Int32) : Option (aH) := if v2 = (-1 : Int32) then some h else (gR h 10 v0 0).bind fun t1 => (ck h 3 t1).bind fun _ => (f_X3_wasPut h t1 v2).bind fun t2 => if t2 = 0 then (gR h 10 v0 0).bind fun t3 => (gR h 3 t3 0).bind fun t4 => (ck h 6 t4).bind fun _ => (f_X6_putToday h t4).bind fun t5 => if t5 < (9 : Int32) then (gR h 10 v0 0).bind fun t6 => (gR h 3 t6 4).bind fun t7 => (gI h 10 v0 2).bind fun t8 => (ck h 1 t7).bind fun _ => (f_X1_packedAnswers h t7 v1 v2 t8).bind fun t9 => (gR h 10 v0 0).bind fun t10 => (gR h 10 v0 1).bind fun t11 => (lI h t11 v1).bind fun t12 => (f_X1_answerOf h t9 t12).bind fun t13 => (ck h 3 t10).bind fun _ => (f_X3_enter h t10 v1 v2 t13).bind fun h14 => some h14 else some h else some h
theorem s_X10_put {h : aH} {v0 : Nat} {v1 : Int32} {v2 : Int32} {out : aH} (hf0 : f_X10_put h v0 v1 v2 = some out) : EV 4 yX10_put cX10_put 4 none h [.ref v0, .int v1, .int v2] none out 0 0 := by
  refine EV.of (own := RX10) (lv0 := [(0, .ref v0), (1, .int v1), (2, .int v2)]) (by decide +kernel) rfl rfl (Nat.le_of_ble_eq_true rfl) ?_
  intro p l e s m args below meth c D cA B Hb C hin
  unfold f_X10_put at hf0
  refine r_iload_n C dX10_put_0 rfl ?_
  refine r_iconst (v := -1) C dX10_put_1 (by decide) ?_
  refine r_icmp_eq (tgt := 31) C dX10_put_2 (by decide) (fun c1 => ?_) (fun c1 => ?_)
  · rw [if_pos c1] at hf0
    obtain rfl := so hf0
    exact r_vret C dX10_put_31
  · rw [if_neg c1] at hf0
    refine r_aload_n C dX10_put_5 rfl ?_
    obtain ⟨t2, e3, hf0⟩ := ob hf0
    refine r_getR C fk_X10_27 rfl dX10_put_6 e3 ?_
    refine r_iload_n C dX10_put_9 rfl ?_
    obtain ⟨u5, e4, hf0⟩ := ob hf0
    obtain ⟨t6, e7, hf0⟩ := ob hf0
    refine r_cV (ci := 3) (rest := []) (st2 := [.int t6]) C (s_X3_wasPut e7) mk_X3_wasPut rfl (ck_k e4) (by decide) im_X3_wasPut sl_X3_wasPut lk_X10_101 rfl rfl rfl dX10_put_10 (Nat.le_of_ble_eq_true rfl) ⟨Nat.le_of_ble_eq_true rfl, Nat.le_of_ble_eq_true rfl⟩ ⟨Nat.le_of_ble_eq_true rfl, Nat.le_of_ble_eq_true rfl⟩ ?_
    refine r_ifne (tgt := 31) C dX10_put_13 (by decide) (fun c8 => ?_) (fun c8 => ?_)
    · rw [if_neg c8] at hf0
      obtain rfl := so hf0
      exact r_vret C dX10_put_31
    · rw [if_pos c8] at hf0
      refine r_aload_n C dX10_put_16 rfl ?_
      obtain ⟨t9, e10, hf0⟩ := ob hf0
      refine r_getR C fk_X10_27 rfl dX10_put_17 e10 ?_
      obtain ⟨t11, e12, hf0⟩ := ob hf0
      refine r_getR C fk_X10_60 rfl dX10_put_20 e12 ?_
      obtain ⟨u14, e13, hf0⟩ := ob hf0
      obtain ⟨t15, e16, hf0⟩ := ob hf0
      refine r_cV (ci := 6) (rest := []) (st2 := [.int t15]) C (s_X6_putToday e16) mk_X6_putToday rfl (ck_k e13) (by decide) im_X6_putToday sl_X6_putToday lk_X10_105 rfl rfl rfl dX10_put_23 (Nat.le_of_ble_eq_true rfl) ⟨Nat.le_of_ble_eq_true rfl, Nat.le_of_ble_eq_true rfl⟩ ⟨Nat.le_of_ble_eq_true rfl, Nat.le_of_ble_eq_true rfl⟩ ?_
      refine r_bipush (v := 9) C dX10_put_26 (by decide) ?_
      refine r_icmp_lt (tgt := 32) C dX10_put_28 (by decide) (fun c17 => ?_) (fun c17 => ?_)
      · rw [if_pos c17] at hf0
        refine r_aload_n C dX10_put_32 rfl ?_
        obtain ⟨t18, e19, hf0⟩ := ob hf0
        refine r_getR C fk_X10_27 rfl dX10_put_33 e19 ?_
        obtain ⟨t20, e21, hf0⟩ := ob hf0
        refine r_getR C fk_X10_109 rfl dX10_put_36 e21 ?_
        refine r_iload_n C dX10_put_39 rfl ?_
        refine r_iload_n C dX10_put_40 rfl ?_
        refine r_aload_n C dX10_put_41 rfl ?_
        obtain ⟨t22, e23, hf0⟩ := ob hf0
        refine r_getI C fk_X10_15 rfl dX10_put_42 e23 ?_
        obtain ⟨u25, e24, hf0⟩ := ob hf0
        obtain ⟨t26, e27, hf0⟩ := ob hf0
        refine r_cV (ci := 1) (rest := []) (st2 := [.int t26]) C (s_X1_packedAnswers e27) mk_X1_packedAnswers rfl (ck_k e24) (by decide) im_X1_packedAnswers sl_X1_packedAnswers lk_X10_113 rfl rfl rfl dX10_put_45 (Nat.le_of_ble_eq_true rfl) ⟨Nat.le_of_ble_eq_true rfl, Nat.le_of_ble_eq_true rfl⟩ ⟨Nat.le_of_ble_eq_true rfl, Nat.le_of_ble_eq_true rfl⟩ ?_
        refine r_istore_n (lv' := [(3, .int t26), (0, .ref v0), (1, .int v1), (2, .int v2)]) C dX10_put_48 (by decide) rfl rfl ?_
        refine r_aload_n C dX10_put_49 rfl ?_
        obtain ⟨t28, e29, hf0⟩ := ob hf0
        refine r_getR C fk_X10_27 rfl dX10_put_50 e29 ?_
        refine r_iload_n C dX10_put_53 rfl ?_
        refine r_iload_n C dX10_put_54 rfl ?_
        refine r_iload_n C dX10_put_55 rfl ?_
        refine r_aload_n C dX10_put_56 rfl ?_
        obtain ⟨t30, e31, hf0⟩ := ob hf0
        refine r_getR C fk_X10_9 rfl dX10_put_57 e31 ?_
        refine r_iload_n C dX10_put_60 rfl ?_
        obtain ⟨t32, e33, hf0⟩ := ob hf0
        refine r_ldI C dX10_put_61 e33 ?_
        obtain ⟨t34, e35, hf0⟩ := ob hf0
        refine r_cS (rest := [.int v2, .int v1, .ref t28]) (st2 := [.int t34, .int v2, .int v1, .ref t28]) C (s_X1_answerOf e35) mk_X1_answerOf sm_X1_answerOf lk_X10_117 rfl rfl rfl dX10_put_62 (Nat.le_of_ble_eq_true rfl) ⟨Nat.le_of_ble_eq_true rfl, Nat.le_of_ble_eq_true rfl⟩ ⟨Nat.le_of_ble_eq_true rfl, Nat.le_of_ble_eq_true rfl⟩ ?_
        obtain ⟨u37, e36, hf0⟩ := ob hf0
        obtain ⟨h38, e39, hf0⟩ := ob hf0
        refine r_cV (ci := 3) (rest := []) (st2 := []) C (s_X3_enter e39) mk_X3_enter rfl (ck_k e36) (by decide) im_X3_enter sl_X3_enter lk_X10_121 rfl rfl rfl dX10_put_65 (Nat.le_of_ble_eq_true rfl) ⟨Nat.le_of_ble_eq_true rfl, Nat.le_of_ble_eq_true rfl⟩ ⟨Nat.le_of_ble_eq_true rfl, Nat.le_of_ble_eq_true rfl⟩ ?_
        obtain rfl := so hf0
        exact r_vret C dX10_put_68
      · rw [if_neg c17] at hf0
        obtain rfl := so hf0
        exact r_vret C dX10_put_31
def f_X10_judge_j43 (h : aH) (v0 : Nat) (v1 : Int32) (v2 : Int32) : Option (Int32) := (gR h 10 v0 0).bind fun t1 => (gR h 3 t1 4).bind fun t2 => (gI h 10 v0 2).bind fun t3 => (ck h 1 t2).bind fun _ => (f_X1_inQuestion h t2 v1 t3).bind fun t4 => if v2 = t4 then some (0 : Int32) else some (1 : Int32)
def f_X10_judge_j42 (h : aH) (v0 : Nat) (v1 : Int32) (s0 : Int32) : Option (Int32) := f_X10_judge_j43 h v0 v1 s0
def f_X10_judge (h : aH) (v0 : Nat) (v1 : Int32) : Option (Int32) := (gR h 10 v0 0).bind fun t5 => (ck h 3 t5).bind fun _ => (f_X3_certainty h t5 v1).bind fun t6 => if t6 = (-1 : Int32) then (gR h 10 v0 0).bind fun t7 => (ck h 3 t7).bind fun _ => (f_X3_weightIn h t7 v1).bind fun t8 => (gR h 10 v0 0).bind fun t9 => (ck h 3 t9).bind fun _ => (f_X3_weightOfAll h t9).bind fun t10 => if (lg_cmp ((2 : Int64) * t8) t10) < 0 then f_X10_judge_j42 h v0 v1 (0 : Int32) else f_X10_judge_j42 h v0 v1 (1 : Int32) else f_X10_judge_j43 h v0 v1 t6
theorem s_X10_judge {h : aH} {v0 : Nat} {v1 : Int32} {out : Int32} (hf0 : f_X10_judge h v0 v1 = some out) : EV 4 yX10_judge cX10_judge 3 (some .int) h [.ref v0, .int v1] (some (.int out)) h 0 0 := by
  refine EV.of (own := RX10) (lv0 := [(0, .ref v0), (1, .int v1)]) (by decide +kernel) rfl rfl (Nat.le_of_ble_eq_true rfl) ?_
  intro p l e s m args below meth c D cA B Hb C hin
  unfold f_X10_judge at hf0
  have J43 : ∀ (t1 : Nat) (t2 : Int32) (t3 : Int32), f_X10_judge_j43 h t1 t2 t3 = some out → gW p l e (rmO 4 0 0) s m args below meth c (MQ below (eQ D cA B Hb h (some (.int out))) args s 0 0 (fun q => B ≤ q)) D cA B Hb 3 h 43 [(0, .ref t1), (1, .int t2), (2, .int t3)] [] 0 0 := by
    intro t1 t2 t3 hf0
    unfold f_X10_judge_j43 at hf0
    refine r_iload_n C dX10_judge_43 rfl ?_
    refine r_aload_n C dX10_judge_44 rfl ?_
    obtain ⟨t4, e5, hf0⟩ := ob hf0
    refine r_getR C fk_X10_27 rfl dX10_judge_45 e5 ?_
    obtain ⟨t6, e7, hf0⟩ := ob hf0
    refine r_getR C fk_X10_109 rfl dX10_judge_48 e7 ?_
    refine r_iload_n C dX10_judge_51 rfl ?_
    refine r_aload_n C dX10_judge_52 rfl ?_
    obtain ⟨t8, e9, hf0⟩ := ob hf0
    refine r_getI C fk_X10_15 rfl dX10_judge_53 e9 ?_
    obtain ⟨u11, e10, hf0⟩ := ob hf0
    obtain ⟨t12, e13, hf0⟩ := ob hf0
    refine r_cV (ci := 1) (rest := [.int t3]) (st2 := [.int t12, .int t3]) C (s_X1_inQuestion e13) mk_X1_inQuestion rfl (ck_k e10) (by decide) im_X1_inQuestion sl_X1_inQuestion lk_X10_141 rfl rfl rfl dX10_judge_56 (Nat.le_of_ble_eq_true rfl) ⟨Nat.le_of_ble_eq_true rfl, Nat.le_of_ble_eq_true rfl⟩ ⟨Nat.le_of_ble_eq_true rfl, Nat.le_of_ble_eq_true rfl⟩ ?_
    refine r_icmp_ne (tgt := 66) C dX10_judge_59 (by decide) (fun c14 => ?_) (fun c14 => ?_)
    · rw [if_neg c14] at hf0
      refine r_iconst (v := 1) C dX10_judge_66 (by decide) ?_
      obtain rfl := so hf0
      exact r_iret C dX10_judge_67
    · rw [if_pos c14] at hf0
      refine r_iconst (v := 0) C dX10_judge_62 (by decide) ?_
      refine r_goto (tgt := 67) C dX10_judge_63 (by decide) ?_
      obtain rfl := so hf0
      exact r_iret C dX10_judge_67
  have J42 : ∀ (t15 : Nat) (t16 : Int32) (t17 : Int32), f_X10_judge_j42 h t15 t16 t17 = some out → gW p l e (rmO 4 0 0) s m args below meth c (MQ below (eQ D cA B Hb h (some (.int out))) args s 0 0 (fun q => B ≤ q)) D cA B Hb 3 h 42 [(0, .ref t15), (1, .int t16)] [.int t17] 0 0 := by
    intro t15 t16 t17 hf0
    unfold f_X10_judge_j42 at hf0
    refine r_istore_n (lv' := [(2, .int t17), (0, .ref t15), (1, .int t16)]) C dX10_judge_42 (by decide) rfl rfl ?_
    refine r_subk [1, 2, 0] (lv' := [(0, .ref t15), (1, .int t16), (2, .int t17)]) rfl ?_
    exact J43 t15 t16 t17 hf0
  refine r_aload_n C dX10_judge_0 rfl ?_
  obtain ⟨t18, e19, hf0⟩ := ob hf0
  refine r_getR C fk_X10_27 rfl dX10_judge_1 e19 ?_
  refine r_iload_n C dX10_judge_4 rfl ?_
  obtain ⟨u21, e20, hf0⟩ := ob hf0
  obtain ⟨t22, e23, hf0⟩ := ob hf0
  refine r_cV (ci := 3) (rest := []) (st2 := [.int t22]) C (s_X3_certainty e23) mk_X3_certainty rfl (ck_k e20) (by decide) im_X3_certainty sl_X3_certainty lk_X10_125 rfl rfl rfl dX10_judge_5 (Nat.le_of_ble_eq_true rfl) ⟨Nat.le_of_ble_eq_true rfl, Nat.le_of_ble_eq_true rfl⟩ ⟨Nat.le_of_ble_eq_true rfl, Nat.le_of_ble_eq_true rfl⟩ ?_
  refine r_istore_n (lv' := [(2, .int t22), (0, .ref v0), (1, .int v1)]) C dX10_judge_8 (by decide) rfl rfl ?_
  refine r_iload_n C dX10_judge_9 rfl ?_
  refine r_iconst (v := -1) C dX10_judge_10 (by decide) ?_
  refine r_icmp_ne (tgt := 43) C dX10_judge_11 (by decide) (fun c24 => ?_) (fun c24 => ?_)
  · rw [if_neg c24] at hf0
    refine r_subk [1, 2, 0] (lv' := [(0, .ref v0), (1, .int v1), (2, .int t22)]) rfl ?_
    exact J43 v0 v1 t22 hf0
  · rw [if_pos c24] at hf0
    refine r_ldc2 (v := 2) C dX10_judge_14 cl_X10_131 ?_
    refine r_aload_n C dX10_judge_17 rfl ?_
    obtain ⟨t25, e26, hf0⟩ := ob hf0
    refine r_getR C fk_X10_27 rfl dX10_judge_18 e26 ?_
    refine r_iload_n C dX10_judge_21 rfl ?_
    obtain ⟨u28, e27, hf0⟩ := ob hf0
    obtain ⟨t29, e30, hf0⟩ := ob hf0
    refine r_cV (ci := 3) (rest := [.long (2 : Int64)]) (st2 := [.long t29, .long (2 : Int64)]) C (s_X3_weightIn e30) mk_X3_weightIn rfl (ck_k e27) (by decide) im_X3_weightIn sl_X3_weightIn lk_X10_133 rfl rfl rfl dX10_judge_22 (Nat.le_of_ble_eq_true rfl) ⟨Nat.le_of_ble_eq_true rfl, Nat.le_of_ble_eq_true rfl⟩ ⟨Nat.le_of_ble_eq_true rfl, Nat.le_of_ble_eq_true rfl⟩ ?_
    refine r_lmul C dX10_judge_25 ?_
    refine r_aload_n C dX10_judge_26 rfl ?_
    obtain ⟨t31, e32, hf0⟩ := ob hf0
    refine r_getR C fk_X10_27 rfl dX10_judge_27 e32 ?_
    obtain ⟨u34, e33, hf0⟩ := ob hf0
    obtain ⟨t35, e36, hf0⟩ := ob hf0
    refine r_cV (ci := 3) (rest := [.long ((2 : Int64) * t29)]) (st2 := [.long t35, .long ((2 : Int64) * t29)]) C (s_X3_weightOfAll e36) mk_X3_weightOfAll rfl (ck_k e33) (by decide) im_X3_weightOfAll sl_X3_weightOfAll lk_X10_137 rfl rfl rfl dX10_judge_30 (Nat.le_of_ble_eq_true rfl) ⟨Nat.le_of_ble_eq_true rfl, Nat.le_of_ble_eq_true rfl⟩ ⟨Nat.le_of_ble_eq_true rfl, Nat.le_of_ble_eq_true rfl⟩ ?_
    refine r_lcmp C dX10_judge_33 ?_
    refine r_iflt (tgt := 41) C dX10_judge_34 (by decide) (fun c37 => ?_) (fun c37 => ?_)
    · rw [if_pos c37] at hf0
      refine r_iconst (v := 0) C dX10_judge_41 (by decide) ?_
      refine r_subk [1, 2] (lv' := [(0, .ref v0), (1, .int v1)]) rfl ?_
      exact J42 v0 v1 (0 : Int32) hf0
    · rw [if_neg c37] at hf0
      refine r_iconst (v := 1) C dX10_judge_37 (by decide) ?_
      refine r_goto (tgt := 42) C dX10_judge_38 (by decide) ?_
      refine r_subk [1, 2] (lv' := [(0, .ref v0), (1, .int v1)]) rfl ?_
      exact J42 v0 v1 (1 : Int32) hf0
def f_X10_passes (h : aH) (v0 : Nat) (v1 : Int32) (v2 : Int32) : Option (Int32) := if v1 = (30 : Int32) then (gR h 10 v0 0).bind fun t7 => (ck h 3 t7).bind fun _ => (f_X3_certainty h t7 v2).bind fun t8 => if t8 = (-1 : Int32) then some (0 : Int32) else some (1 : Int32) else if v1 = (31 : Int32) then (gR h 10 v0 0).bind fun t5 => (ck h 3 t5).bind fun _ => (f_X3_certainty h t5 v2).bind fun t6 => if t6 = (1 : Int32) then some (1 : Int32) else some (0 : Int32) else if v1 = (32 : Int32) then (gR h 10 v0 0).bind fun t3 => (ck h 3 t3).bind fun _ => (f_X3_certainty h t3 v2).bind fun t4 => if t4 = 0 then some (1 : Int32) else some (0 : Int32) else (gR h 10 v0 0).bind fun t1 => (gI h 3 t1 5).bind fun t2 => if v2 < t2 then some (0 : Int32) else some (1 : Int32)
theorem s_X10_passes {h : aH} {v0 : Nat} {v1 : Int32} {v2 : Int32} {out : Int32} (hf0 : f_X10_passes h v0 v1 v2 = some out) : EV 2 yX10_passes cX10_passes 3 (some .boolean) h [.ref v0, .int v1, .int v2] (some (.int out)) h 0 0 := by
  refine EV.of (own := RX10) (lv0 := [(0, .ref v0), (1, .int v1), (2, .int v2)]) (by decide +kernel) rfl rfl (Nat.le_of_ble_eq_true rfl) ?_
  intro p l e s m args below meth c D cA B Hb C hin
  unfold f_X10_passes at hf0
  refine r_iload_n C dX10_passes_0 rfl ?_
  by_cases c1 : v1 = (30 : Int32)
  · rw [if_pos c1] at hf0
    refine r_tabIn (k := 30) (off := 27) (tgt := 28) C dX10_passes_1 c1 (by decide) (by decide) (by decide) (by decide) ?_
    refine r_aload_n C dX10_passes_28 rfl ?_
    obtain ⟨t2, e3, hf0⟩ := ob hf0
    refine r_getR C fk_X10_27 rfl dX10_passes_29 e3 ?_
    refine r_iload_n C dX10_passes_32 rfl ?_
    obtain ⟨u5, e4, hf0⟩ := ob hf0
    obtain ⟨t6, e7, hf0⟩ := ob hf0
    refine r_cV (ci := 3) (rest := []) (st2 := [.int t6]) C (s_X3_certainty e7) mk_X3_certainty rfl (ck_k e4) (by decide) im_X3_certainty sl_X3_certainty lk_X10_125 rfl rfl rfl dX10_passes_33 (Nat.le_of_ble_eq_true rfl) ⟨Nat.le_of_ble_eq_true rfl, Nat.le_of_ble_eq_true rfl⟩ ⟨Nat.le_of_ble_eq_true rfl, Nat.le_of_ble_eq_true rfl⟩ ?_
    refine r_iconst (v := -1) C dX10_passes_36 (by decide) ?_
    refine r_icmp_eq (tgt := 44) C dX10_passes_37 (by decide) (fun c8 => ?_) (fun c8 => ?_)
    · rw [if_pos c8] at hf0
      refine r_iconst (v := 0) C dX10_passes_44 (by decide) ?_
      obtain rfl := so hf0
      exact r_zret C dX10_passes_45 (Or.inl rfl)
    · rw [if_neg c8] at hf0
      refine r_iconst (v := 1) C dX10_passes_40 (by decide) ?_
      refine r_goto (tgt := 45) C dX10_passes_41 (by decide) ?_
      obtain rfl := so hf0
      exact r_zret C dX10_passes_45 (Or.inr rfl)
  · rw [if_neg c1] at hf0
    by_cases c9 : v1 = (31 : Int32)
    · rw [if_pos c9] at hf0
      refine r_tabIn (k := 31) (off := 45) (tgt := 46) C dX10_passes_1 c9 (by decide) (by decide) (by decide) (by decide) ?_
      refine r_aload_n C dX10_passes_46 rfl ?_
      obtain ⟨t10, e11, hf0⟩ := ob hf0
      refine r_getR C fk_X10_27 rfl dX10_passes_47 e11 ?_
      refine r_iload_n C dX10_passes_50 rfl ?_
      obtain ⟨u13, e12, hf0⟩ := ob hf0
      obtain ⟨t14, e15, hf0⟩ := ob hf0
      refine r_cV (ci := 3) (rest := []) (st2 := [.int t14]) C (s_X3_certainty e15) mk_X3_certainty rfl (ck_k e12) (by decide) im_X3_certainty sl_X3_certainty lk_X10_125 rfl rfl rfl dX10_passes_51 (Nat.le_of_ble_eq_true rfl) ⟨Nat.le_of_ble_eq_true rfl, Nat.le_of_ble_eq_true rfl⟩ ⟨Nat.le_of_ble_eq_true rfl, Nat.le_of_ble_eq_true rfl⟩ ?_
      refine r_iconst (v := 1) C dX10_passes_54 (by decide) ?_
      refine r_icmp_ne (tgt := 62) C dX10_passes_55 (by decide) (fun c16 => ?_) (fun c16 => ?_)
      · rw [if_neg c16] at hf0
        refine r_iconst (v := 0) C dX10_passes_62 (by decide) ?_
        obtain rfl := so hf0
        exact r_zret C dX10_passes_63 (Or.inl rfl)
      · rw [if_pos c16] at hf0
        refine r_iconst (v := 1) C dX10_passes_58 (by decide) ?_
        refine r_goto (tgt := 63) C dX10_passes_59 (by decide) ?_
        obtain rfl := so hf0
        exact r_zret C dX10_passes_63 (Or.inr rfl)
    · rw [if_neg c9] at hf0
      by_cases c17 : v1 = (32 : Int32)
      · rw [if_pos c17] at hf0
        refine r_tabIn (k := 32) (off := 63) (tgt := 64) C dX10_passes_1 c17 (by decide) (by decide) (by decide) (by decide) ?_
        refine r_aload_n C dX10_passes_64 rfl ?_
        obtain ⟨t18, e19, hf0⟩ := ob hf0
        refine r_getR C fk_X10_27 rfl dX10_passes_65 e19 ?_
        refine r_iload_n C dX10_passes_68 rfl ?_
        obtain ⟨u21, e20, hf0⟩ := ob hf0
        obtain ⟨t22, e23, hf0⟩ := ob hf0
        refine r_cV (ci := 3) (rest := []) (st2 := [.int t22]) C (s_X3_certainty e23) mk_X3_certainty rfl (ck_k e20) (by decide) im_X3_certainty sl_X3_certainty lk_X10_125 rfl rfl rfl dX10_passes_69 (Nat.le_of_ble_eq_true rfl) ⟨Nat.le_of_ble_eq_true rfl, Nat.le_of_ble_eq_true rfl⟩ ⟨Nat.le_of_ble_eq_true rfl, Nat.le_of_ble_eq_true rfl⟩ ?_
        refine r_ifne (tgt := 79) C dX10_passes_72 (by decide) (fun c24 => ?_) (fun c24 => ?_)
        · rw [if_neg c24] at hf0
          refine r_iconst (v := 0) C dX10_passes_79 (by decide) ?_
          obtain rfl := so hf0
          exact r_zret C dX10_passes_80 (Or.inl rfl)
        · rw [if_pos c24] at hf0
          refine r_iconst (v := 1) C dX10_passes_75 (by decide) ?_
          refine r_goto (tgt := 80) C dX10_passes_76 (by decide) ?_
          obtain rfl := so hf0
          exact r_zret C dX10_passes_80 (Or.inr rfl)
      · rw [if_neg c17] at hf0
        refine r_tabOut (tgt := 81) C dX10_passes_1 (tsw (fun j j1 j2 => ?_)) (by decide) ?_
        · rcases (show j = 30 ∨ j = 31 ∨ j = 32 by omega) with rfl | rfl | rfl
          · exact tsw_ne c1
          · exact tsw_ne c9
          · exact tsw_ne c17
        · refine r_aload_n C dX10_passes_81 rfl ?_
          obtain ⟨t25, e26, hf0⟩ := ob hf0
          refine r_getR C fk_X10_27 rfl dX10_passes_82 e26 ?_
          obtain ⟨t27, e28, hf0⟩ := ob hf0
          refine r_getI C fk_X10_128 rfl dX10_passes_85 e28 ?_
          refine r_iload_n C dX10_passes_88 rfl ?_
          refine r_icmp_gt (tgt := 96) C dX10_passes_89 (by decide) (fun c29 => ?_) (fun c29 => ?_)
          · rw [if_pos c29] at hf0
            refine r_iconst (v := 0) C dX10_passes_96 (by decide) ?_
            obtain rfl := so hf0
            exact r_zret C dX10_passes_97 (Or.inl rfl)
          · rw [if_neg c29] at hf0
            refine r_iconst (v := 1) C dX10_passes_92 (by decide) ?_
            refine r_goto (tgt := 97) C dX10_passes_93 (by decide) ?_
            obtain rfl := so hf0
            exact r_zret C dX10_passes_97 (Or.inr rfl)
def f_X10_holdCourt_j174 (h : aH) (v0 : Nat) (v2 : Nat) (v4 : Int32) (v5 : Int32) : Option ((Int32 × Int32 × aH) ⊕ ((Int32 × aH) ⊕ (aH))) := (some (v5 + (1 : Int32))).bind fun t4 => some (.inl (v4, t4, h))
def f_X10_holdCourt_j172 (h : aH) (v0 : Nat) (v2 : Nat) (v5 : Int32) (s0 : Int32) : Option ((Int32 × Int32 × aH) ⊕ ((Int32 × aH) ⊕ (aH))) := f_X10_holdCourt_j174 h v0 v2 s0 v5
def f_X10_holdCourt_b20 (v0 : Nat) (v2 : Nat) (v4 : Int32) (v5 : Int32) (h : aH) : Option ((Int32 × Int32 × aH) ⊕ ((Int32 × aH) ⊕ (aH))) := (gI h 8 v2 6).bind fun t5 => if t5 ≤ v5 then some (.inr (.inr h)) else if v4 ≤ v5 then (gR h 8 v2 1).bind fun t6 => (lI h t6 v5).bind fun t7 => (gR h 8 v2 0).bind fun t8 => (lI h t8 v5).bind fun t9 => if t9 = (25 : Int32) then (gR h 8 v2 2).bind fun t23 => (lI h t23 v5).bind fun t24 => (ck h 10 v0).bind fun _ => (f_X10_put h v0 t7 t24).bind fun h25 => f_X10_holdCourt_j174 h25 v0 v2 v4 v5 else if t9 = (26 : Int32) then (gR h 10 v0 0).bind fun t19 => (ck h 3 t19).bind fun _ => bd2 (f_X3_bestFor h t19 t7) fun t20 h21 => (ck h21 10 v0).bind fun _ => (f_X10_put h21 v0 t7 t20).bind fun h22 => f_X10_holdCourt_j174 h22 v0 v2 v4 v5 else if t9 = (27 : Int32) then (gR h 10 v0 0).bind fun t15 => (gR h 3 t15 0).bind fun t16 => (gI h 6 t16 5).bind fun t17 => (pI h 6 t16 5 (t17 + (1 : Int32))).bind fun h18 => f_X10_holdCourt_j174 h18 v0 v2 v4 v5 else if t9 = (28 : Int32) then some (.inr (.inl (t7, h))) else (gR h 8 v2 0).bind fun t10 => (lI h t10 v5).bind fun t11 => (ck h 10 v0).bind fun _ => (f_X10_passes h v0 t11 t7).bind fun t12 => if t12 = 0 then (gR h 8 v2 3).bind fun t13 => (lI h t13 v5).bind fun t14 => f_X10_holdCourt_j172 h v0 v2 v5 t14 else f_X10_holdCourt_j172 h v0 v2 v5 v4 else f_X10_holdCourt_j174 h v0 v2 v4 v5
def f_X10_holdCourt_l20 (v0 : Nat) (v2 : Nat) (v4 : Int32) (v5 : Int32) (h : aH) : Option ((Int32 × aH) ⊕ (aH)) := whileL wN (fun q : Int32 × Int32 × aH => f_X10_holdCourt_b20 v0 v2 q.1 q.2.1 q.2.2) (v4, v5, h)
def f_X10_holdCourt (h : aH) (v0 : Nat) (v1 : Nat) (v2 : Nat) (v3 : Int32) : Option (Int32 × aH) := (gR h 10 v0 0).bind fun t1 => (ck h 3 t1).bind fun _ => (f_X3_begin h t1 v1).bind fun h2 => (ck h2 10 v0).bind fun _ => (f_X10_drawTruth h2 v0 v1 v3).bind fun h3 => (f_X10_holdCourt_l20 v0 v2 (0 : Int32) (0 : Int32) h3).bind fun e => match e with | .inl (t26, h27) => (ck h27 10 v0).bind fun _ => (f_X10_judge h27 v0 t26).bind fun t28 => some (t28, h27) | .inr h29 => some ((2 : Int32), h29)
theorem s_X10_holdCourt {h : aH} {v0 : Nat} {v1 : Nat} {v2 : Nat} {v3 : Int32} {out : Int32 × aH} (hf0 : f_X10_holdCourt h v0 v1 v2 v3 = some out) : EV 5 yX10_holdCourt cX10_holdCourt 7 (some .int) h [.ref v0, .ref v1, .ref v2, .int v3] (some (.int out.1)) out.2 0 0 := by
  refine EV.of (own := RX10) (lv0 := [(0, .ref v0), (1, .ref v1), (2, .ref v2), (3, .int v3)]) (by decide +kernel) rfl rfl (Nat.le_of_ble_eq_true rfl) ?_
  intro p l e s m args below meth c D cA B Hb C hin
  unfold f_X10_holdCourt at hf0
  refine r_aload_n C dX10_holdCourt_0 rfl ?_
  obtain ⟨t1, e2, hf0⟩ := ob hf0
  refine r_getR C fk_X10_27 rfl dX10_holdCourt_1 e2 ?_
  refine r_aload_n C dX10_holdCourt_4 rfl ?_
  obtain ⟨u4, e3, hf0⟩ := ob hf0
  obtain ⟨h5, e6, hf0⟩ := ob hf0
  refine r_cV (ci := 3) (rest := []) (st2 := []) C (s_X3_begin e6) mk_X3_begin rfl (ck_k e3) (by decide) im_X3_begin sl_X3_begin lk_X10_31 rfl rfl rfl dX10_holdCourt_5 (Nat.le_of_ble_eq_true rfl) ⟨Nat.le_of_ble_eq_true rfl, Nat.le_of_ble_eq_true rfl⟩ ⟨Nat.le_of_ble_eq_true rfl, Nat.le_of_ble_eq_true rfl⟩ ?_
  refine r_aload_n C dX10_holdCourt_8 rfl ?_
  refine r_aload_n C dX10_holdCourt_9 rfl ?_
  refine r_iload_n C dX10_holdCourt_10 rfl ?_
  obtain ⟨u8, e7, hf0⟩ := ob hf0
  obtain ⟨h9, e10, hf0⟩ := ob hf0
  refine r_cV (ci := 10) (rest := []) (st2 := []) C (s_X10_drawTruth e10) mk_X10_drawTruth rfl (ck_k e7) (by decide) im_X10_drawTruth sl_X10_drawTruth lk_X10_34 rfl rfl rfl dX10_holdCourt_11 (Nat.le_of_ble_eq_true rfl) ⟨Nat.le_of_ble_eq_true rfl, Nat.le_of_ble_eq_true rfl⟩ ⟨Nat.le_of_ble_eq_true rfl, Nat.le_of_ble_eq_true rfl⟩ ?_
  refine r_iconst (v := 0) C dX10_holdCourt_14 (by decide) ?_
  refine r_istore (lv' := [(4, .int (0 : Int32)), (0, .ref v0), (1, .ref v1), (2, .ref v2), (3, .int v3)]) C dX10_holdCourt_15 (by decide) rfl rfl ?_
  refine r_iconst (v := 0) C dX10_holdCourt_17 (by decide) ?_
  refine r_istore (lv' := [(5, .int (0 : Int32)), (4, .int (0 : Int32)), (0, .ref v0), (1, .ref v1), (2, .ref v2), (3, .int v3)]) C dX10_holdCourt_18 (by decide) rfl rfl ?_
  obtain ⟨y11, hl20, hf0⟩ := ob hf0
  have L20 : ∀ (n : Nat) (t12 : Int32) (t13 : Int32) (h14 : aH), whileL n (fun q : Int32 × Int32 × aH => f_X10_holdCourt_b20 v0 v2 q.1 q.2.1 q.2.2) (t12, t13, h14) = some y11 → gW p l e (rmO 5 0 0) s m args below meth c (MQ below (eQ D cA B Hb out.2 (some (.int out.1))) args s 0 0 (fun q => B ≤ q)) D cA B Hb 7 h14 20 [(0, .ref v0), (2, .ref v2), (4, .int t12), (5, .int t13)] [] 0 0 := by
    intro n
    induction n with
    | zero => intro t12 t13 h14 hz; cases hz
    | succ n ih20 =>
      intro t12 t13 h14 hz
      obtain ⟨x20, hf1, hk20⟩ := wl hz
      replace hf1 : f_X10_holdCourt_b20 v0 v2 t12 t13 h14 = some x20 := hf1
      unfold f_X10_holdCourt_b20 at hf1
      have J174 : ∀ (h15 : aH) (t16 : Int32) (t17 : Int32), f_X10_holdCourt_j174 h15 v0 v2 t16 t17 = some x20 → gW p l e (rmO 5 0 0) s m args below meth c (MQ below (eQ D cA B Hb out.2 (some (.int out.1))) args s 0 0 (fun q => B ≤ q)) D cA B Hb 7 h15 174 [(0, .ref v0), (2, .ref v2), (4, .int t16), (5, .int t17)] [] 0 0 := by
        intro h15 t16 t17 hf1
        unfold f_X10_holdCourt_j174 at hf1
        obtain ⟨t18, e19, hf1⟩ := ob hf1
        refine r_iinc (lv' := [(5, .int t18), (0, .ref v0), (2, .ref v2), (4, .int t16)]) C dX10_holdCourt_174 rfl e19 (by decide) rfl ?_
        refine r_goto (tgt := 20) C dX10_holdCourt_177 (by decide) ?_
        obtain rfl := so hf1
        refine r_subk [1, 2, 3, 0] (lv' := [(0, .ref v0), (2, .ref v2), (4, .int t16), (5, .int t18)]) rfl ?_
        exact ih20 t16 t18 h15 hk20
      have J172 : ∀ (h20 : aH) (t21 : Int32) (t22 : Int32), f_X10_holdCourt_j172 h20 v0 v2 t21 t22 = some x20 → gW p l e (rmO 5 0 0) s m args below meth c (MQ below (eQ D cA B Hb out.2 (some (.int out.1))) args s 0 0 (fun q => B ≤ q)) D cA B Hb 7 h20 172 [(0, .ref v0), (2, .ref v2), (5, .int t21)] [.int t22] 0 0 := by
        intro h20 t21 t22 hf1
        unfold f_X10_holdCourt_j172 at hf1
        refine r_istore (lv' := [(4, .int t22), (0, .ref v0), (2, .ref v2), (5, .int t21)]) C dX10_holdCourt_172 (by decide) rfl rfl ?_
        refine r_subk [1, 2, 0, 3] (lv' := [(0, .ref v0), (2, .ref v2), (4, .int t22), (5, .int t21)]) rfl ?_
        exact J174 h20 t22 t21 hf1
      refine r_iload C dX10_holdCourt_20 rfl ?_
      refine r_aload_n C dX10_holdCourt_22 rfl ?_
      obtain ⟨t23, e24, hf1⟩ := ob hf1
      refine r_getI C fk_X10_38 rfl dX10_holdCourt_23 e24 ?_
      refine r_icmp_ge (tgt := 180) C dX10_holdCourt_26 (by decide) (fun c25 => ?_) (fun c25 => ?_)
      · rw [if_pos c25] at hf1
        obtain rfl := so hf1
        obtain rfl := so (show some (.inr h14 : (Int32 × aH) ⊕ (aH)) = some y11 from hk20)
        dsimp only at hf0
        refine r_iconst (v := 2) C dX10_holdCourt_180 (by decide) ?_
        obtain rfl := so hf0
        exact r_iret C dX10_holdCourt_181
      · rw [if_neg c25] at hf1
        refine r_iload C dX10_holdCourt_29 rfl ?_
        refine r_iload C dX10_holdCourt_31 rfl ?_
        refine r_icmp_ge (tgt := 39) C dX10_holdCourt_33 (by decide) (fun c26 => ?_) (fun c26 => ?_)
        · rw [if_pos c26] at hf1
          refine r_aload_n C dX10_holdCourt_39 rfl ?_
          obtain ⟨t27, e28, hf1⟩ := ob hf1
          refine r_getR C fk_X10_43 rfl dX10_holdCourt_40 e28 ?_
          refine r_iload C dX10_holdCourt_43 rfl ?_
          obtain ⟨t29, e30, hf1⟩ := ob hf1
          refine r_ldI C dX10_holdCourt_45 e30 ?_
          refine r_istore (lv' := [(6, .int t29), (0, .ref v0), (2, .ref v2), (4, .int t12), (5, .int t13)]) C dX10_holdCourt_46 (by decide) rfl rfl ?_
          refine r_aload_n C dX10_holdCourt_48 rfl ?_
          obtain ⟨t31, e32, hf1⟩ := ob hf1
          refine r_getR C fk_X10_46 rfl dX10_holdCourt_49 e32 ?_
          refine r_iload C dX10_holdCourt_52 rfl ?_
          obtain ⟨t33, e34, hf1⟩ := ob hf1
          refine r_ldI C dX10_holdCourt_54 e34 ?_
          by_cases c35 : t33 = (25 : Int32)
          · rw [if_pos c35] at hf1
            refine r_tabIn (k := 25) (off := 29) (tgt := 84) C dX10_holdCourt_55 c35 (by decide) (by decide) (by decide) (by decide) ?_
            refine r_aload_n C dX10_holdCourt_84 rfl ?_
            refine r_iload C dX10_holdCourt_85 rfl ?_
            refine r_aload_n C dX10_holdCourt_87 rfl ?_
            obtain ⟨t36, e37, hf1⟩ := ob hf1
            refine r_getR C fk_X10_49 rfl dX10_holdCourt_88 e37 ?_
            refine r_iload C dX10_holdCourt_91 rfl ?_
            obtain ⟨t38, e39, hf1⟩ := ob hf1
            refine r_ldI C dX10_holdCourt_93 e39 ?_
            obtain ⟨u41, e40, hf1⟩ := ob hf1
            obtain ⟨h42, e43, hf1⟩ := ob hf1
            refine r_cV (ci := 10) (rest := []) (st2 := []) C (s_X10_put e43) mk_X10_put rfl (ck_k e40) (by decide) im_X10_put sl_X10_put lk_X10_52 rfl rfl rfl dX10_holdCourt_94 (Nat.le_of_ble_eq_true rfl) ⟨Nat.le_of_ble_eq_true rfl, Nat.le_of_ble_eq_true rfl⟩ ⟨Nat.le_of_ble_eq_true rfl, Nat.le_of_ble_eq_true rfl⟩ ?_
            refine r_goto (tgt := 174) C dX10_holdCourt_97 (by decide) ?_
            refine r_subk [1, 2, 3, 4] (lv' := [(0, .ref v0), (2, .ref v2), (4, .int t12), (5, .int t13)]) rfl ?_
            exact J174 h42 t12 t13 hf1
          · rw [if_neg c35] at hf1
            by_cases c44 : t33 = (26 : Int32)
            · rw [if_pos c44] at hf1
              refine r_tabIn (k := 26) (off := 45) (tgt := 100) C dX10_holdCourt_55 c44 (by decide) (by decide) (by decide) (by decide) ?_
              refine r_aload_n C dX10_holdCourt_100 rfl ?_
              refine r_iload C dX10_holdCourt_101 rfl ?_
              refine r_aload_n C dX10_holdCourt_103 rfl ?_
              obtain ⟨t45, e46, hf1⟩ := ob hf1
              refine r_getR C fk_X10_27 rfl dX10_holdCourt_104 e46 ?_
              refine r_iload C dX10_holdCourt_107 rfl ?_
              obtain ⟨u48, e47, hf1⟩ := ob hf1
              obtain ⟨t49, h50, e51, hf1⟩ := ob2 hf1
              refine r_cV (ci := 3) (rest := [.int t29, .ref v0]) (st2 := [.int t49, .int t29, .ref v0]) C (s_X3_bestFor e51) mk_X3_bestFor rfl (ck_k e47) (by decide) im_X3_bestFor sl_X3_bestFor lk_X10_56 rfl rfl rfl dX10_holdCourt_109 (Nat.le_of_ble_eq_true rfl) ⟨Nat.le_of_ble_eq_true rfl, Nat.le_of_ble_eq_true rfl⟩ ⟨Nat.le_of_ble_eq_true rfl, Nat.le_of_ble_eq_true rfl⟩ ?_
              obtain ⟨u53, e52, hf1⟩ := ob hf1
              obtain ⟨h54, e55, hf1⟩ := ob hf1
              refine r_cV (ci := 10) (rest := []) (st2 := []) C (s_X10_put e55) mk_X10_put rfl (ck_k e52) (by decide) im_X10_put sl_X10_put lk_X10_52 rfl rfl rfl dX10_holdCourt_112 (Nat.le_of_ble_eq_true rfl) ⟨Nat.le_of_ble_eq_true rfl, Nat.le_of_ble_eq_true rfl⟩ ⟨Nat.le_of_ble_eq_true rfl, Nat.le_of_ble_eq_true rfl⟩ ?_
              refine r_goto (tgt := 174) C dX10_holdCourt_115 (by decide) ?_
              refine r_subk [1, 2, 3, 4] (lv' := [(0, .ref v0), (2, .ref v2), (4, .int t12), (5, .int t13)]) rfl ?_
              exact J174 h54 t12 t13 hf1
            · rw [if_neg c44] at hf1
              by_cases c56 : t33 = (27 : Int32)
              · rw [if_pos c56] at hf1
                refine r_tabIn (k := 27) (off := 63) (tgt := 118) C dX10_holdCourt_55 c56 (by decide) (by decide) (by decide) (by decide) ?_
                refine r_aload_n C dX10_holdCourt_118 rfl ?_
                obtain ⟨t57, e58, hf1⟩ := ob hf1
                refine r_getR C fk_X10_27 rfl dX10_holdCourt_119 e58 ?_
                obtain ⟨t59, e60, hf1⟩ := ob hf1
                refine r_getR C fk_X10_60 rfl dX10_holdCourt_122 e60 ?_
                refine r_dup C dX10_holdCourt_125 rfl ?_
                obtain ⟨t61, e62, hf1⟩ := ob hf1
                refine r_getI C fk_X10_64 rfl dX10_holdCourt_126 e62 ?_
                refine r_iconst (v := 1) C dX10_holdCourt_129 (by decide) ?_
                refine r_iadd C dX10_holdCourt_130 ?_
                obtain ⟨h63, e64, hf1⟩ := ob hf1
                refine r_putI C fk_X10_64 dX10_holdCourt_131 e64 ?_
                refine r_goto (tgt := 174) C dX10_holdCourt_134 (by decide) ?_
                refine r_subk [1, 2, 3, 4] (lv' := [(0, .ref v0), (2, .ref v2), (4, .int t12), (5, .int t13)]) rfl ?_
                exact J174 h63 t12 t13 hf1
              · rw [if_neg c56] at hf1
                by_cases c65 : t33 = (28 : Int32)
                · rw [if_pos c65] at hf1
                  refine r_tabIn (k := 28) (off := 82) (tgt := 137) C dX10_holdCourt_55 c65 (by decide) (by decide) (by decide) (by decide) ?_
                  obtain rfl := so hf1
                  obtain rfl := so (show some (.inl (t29, h14) : (Int32 × aH) ⊕ (aH)) = some y11 from hk20)
                  dsimp only at hf0
                  refine r_aload_n C dX10_holdCourt_137 rfl ?_
                  refine r_iload C dX10_holdCourt_138 rfl ?_
                  obtain ⟨u67, e66, hf0⟩ := ob hf0
                  obtain ⟨t68, e69, hf0⟩ := ob hf0
                  refine r_cV (ci := 10) (rest := []) (st2 := [.int t68]) C (s_X10_judge e69) mk_X10_judge rfl (ck_k e66) (by decide) im_X10_judge sl_X10_judge lk_X10_69 rfl rfl rfl dX10_holdCourt_140 (Nat.le_of_ble_eq_true rfl) ⟨Nat.le_of_ble_eq_true rfl, Nat.le_of_ble_eq_true rfl⟩ ⟨Nat.le_of_ble_eq_true rfl, Nat.le_of_ble_eq_true rfl⟩ ?_
                  obtain rfl := so hf0
                  exact r_iret C dX10_holdCourt_143
                · rw [if_neg c65] at hf1
                  refine r_tabOut (tgt := 144) C dX10_holdCourt_55 (tsw (fun j j1 j2 => ?_)) (by decide) ?_
                  · rcases (show j = 25 ∨ j = 26 ∨ j = 27 ∨ j = 28 by omega) with rfl | rfl | rfl | rfl
                    · exact tsw_ne c35
                    · exact tsw_ne c44
                    · exact tsw_ne c56
                    · exact tsw_ne c65
                  · refine r_aload_n C dX10_holdCourt_144 rfl ?_
                    refine r_aload_n C dX10_holdCourt_145 rfl ?_
                    obtain ⟨t70, e71, hf1⟩ := ob hf1
                    refine r_getR C fk_X10_46 rfl dX10_holdCourt_146 e71 ?_
                    refine r_iload C dX10_holdCourt_149 rfl ?_
                    obtain ⟨t72, e73, hf1⟩ := ob hf1
                    refine r_ldI C dX10_holdCourt_151 e73 ?_
                    refine r_iload C dX10_holdCourt_152 rfl ?_
                    obtain ⟨u75, e74, hf1⟩ := ob hf1
                    obtain ⟨t76, e77, hf1⟩ := ob hf1
                    refine r_cV (ci := 10) (rest := []) (st2 := [.int t76]) C (s_X10_passes e77) mk_X10_passes rfl (ck_k e74) (by decide) im_X10_passes sl_X10_passes lk_X10_72 rfl rfl rfl dX10_holdCourt_154 (Nat.le_of_ble_eq_true rfl) ⟨Nat.le_of_ble_eq_true rfl, Nat.le_of_ble_eq_true rfl⟩ ⟨Nat.le_of_ble_eq_true rfl, Nat.le_of_ble_eq_true rfl⟩ ?_
                    refine r_ifeq (tgt := 165) C dX10_holdCourt_157 (by decide) (fun c78 => ?_) (fun c78 => ?_)
                    · rw [if_pos c78] at hf1
                      refine r_aload_n C dX10_holdCourt_165 rfl ?_
                      obtain ⟨t79, e80, hf1⟩ := ob hf1
                      refine r_getR C fk_X10_76 rfl dX10_holdCourt_166 e80 ?_
                      refine r_iload C dX10_holdCourt_169 rfl ?_
                      obtain ⟨t81, e82, hf1⟩ := ob hf1
                      refine r_ldI C dX10_holdCourt_171 e82 ?_
                      refine r_subk [1, 2, 4] (lv' := [(0, .ref v0), (2, .ref v2), (5, .int t13)]) rfl ?_
                      exact J172 h14 t13 t81 hf1
                    · rw [if_neg c78] at hf1
                      refine r_iload C dX10_holdCourt_160 rfl ?_
                      refine r_goto (tgt := 172) C dX10_holdCourt_162 (by decide) ?_
                      refine r_subk [1, 2, 4] (lv' := [(0, .ref v0), (2, .ref v2), (5, .int t13)]) rfl ?_
                      exact J172 h14 t13 t12 hf1
        · rw [if_neg c26] at hf1
          refine r_goto (tgt := 174) C dX10_holdCourt_36 (by decide) ?_
          exact J174 h14 t12 t13 hf1
  refine r_subk [2, 4, 1, 0] (lv' := [(0, .ref v0), (2, .ref v2), (4, .int (0 : Int32)), (5, .int (0 : Int32))]) rfl ?_
  exact L20 wN (0 : Int32) (0 : Int32) h9 hl20
def f_X10_dishonest_j33 (h : aH) (v0 : Nat) (v1 : Int32) (v2 : Int32) : Option ((Int32 × Int32) ⊕ (Int32)) := (some (v2 + (1 : Int32))).bind fun t1 => some (.inl (v1, t1))
def f_X10_dishonest_b4 (h : aH) (v0 : Nat) (v1 : Int32) (v2 : Int32) : Option ((Int32 × Int32) ⊕ (Int32)) := (gR h 10 v0 0).bind fun t2 => (gR h 3 t2 4).bind fun t3 => (gI h 1 t3 17).bind fun t4 => if t4 ≤ v2 then some (.inr v1) else (gR h 10 v0 1).bind fun t5 => (lI h t5 v2).bind fun t6 => if t6 = 0 then f_X10_dishonest_j33 h v0 v1 v2 else (some (v1 ||| ((1 : Int32) <<< (v2 &&& 31)))).bind fun t7 => f_X10_dishonest_j33 h v0 t7 v2
def f_X10_dishonest_l4 (h : aH) (v0 : Nat) (v1 : Int32) (v2 : Int32) : Option (Int32) := whileL wN (fun q : Int32 × Int32 => f_X10_dishonest_b4 h v0 q.1 q.2) (v1, v2)
def f_X10_dishonest (h : aH) (v0 : Nat) : Option (Int32) := (f_X10_dishonest_l4 h v0 (0 : Int32) (0 : Int32)).bind fun t8 => some t8
theorem s_X10_dishonest {h : aH} {v0 : Nat} {out : Int32} (hf0 : f_X10_dishonest h v0 = some out) : EV 0 yX10_dishonest cX10_dishonest 3 (some .int) h [.ref v0] (some (.int out)) h 0 0 := by
  refine EV.of (own := RX10) (lv0 := [(0, .ref v0)]) (by decide +kernel) rfl rfl (Nat.le_of_ble_eq_true rfl) ?_
  intro p l e s m args below meth c D cA B Hb C hin
  unfold f_X10_dishonest at hf0
  refine r_iconst (v := 0) C dX10_dishonest_0 (by decide) ?_
  refine r_istore_n (lv' := [(1, .int (0 : Int32)), (0, .ref v0)]) C dX10_dishonest_1 (by decide) rfl rfl ?_
  refine r_iconst (v := 0) C dX10_dishonest_2 (by decide) ?_
  refine r_istore_n (lv' := [(2, .int (0 : Int32)), (1, .int (0 : Int32)), (0, .ref v0)]) C dX10_dishonest_3 (by decide) rfl rfl ?_
  obtain ⟨y1, hl4, hf0⟩ := ob hf0
  have L4 : ∀ (n : Nat) (t2 : Int32) (t3 : Int32), whileL n (fun q : Int32 × Int32 => f_X10_dishonest_b4 h v0 q.1 q.2) (t2, t3) = some y1 → gW p l e (rmO 0 0 0) s m args below meth c (MQ below (eQ D cA B Hb h (some (.int out))) args s 0 0 (fun q => B ≤ q)) D cA B Hb 3 h 4 [(0, .ref v0), (1, .int t2), (2, .int t3)] [] 0 0 := by
    intro n
    induction n with
    | zero => intro t2 t3 hz; cases hz
    | succ n ih4 =>
      intro t2 t3 hz
      obtain ⟨x4, hf1, hk4⟩ := wl hz
      replace hf1 : f_X10_dishonest_b4 h v0 t2 t3 = some x4 := hf1
      unfold f_X10_dishonest_b4 at hf1
      have J33 : ∀ (t4 : Int32) (t5 : Int32), f_X10_dishonest_j33 h v0 t4 t5 = some x4 → gW p l e (rmO 0 0 0) s m args below meth c (MQ below (eQ D cA B Hb h (some (.int out))) args s 0 0 (fun q => B ≤ q)) D cA B Hb 3 h 33 [(0, .ref v0), (1, .int t4), (2, .int t5)] [] 0 0 := by
        intro t4 t5 hf1
        unfold f_X10_dishonest_j33 at hf1
        obtain ⟨t6, e7, hf1⟩ := ob hf1
        refine r_iinc (lv' := [(2, .int t6), (0, .ref v0), (1, .int t4)]) C dX10_dishonest_33 rfl e7 (by decide) rfl ?_
        refine r_goto (tgt := 4) C dX10_dishonest_36 (by decide) ?_
        obtain rfl := so hf1
        refine r_subk [1, 2, 0] (lv' := [(0, .ref v0), (1, .int t4), (2, .int t6)]) rfl ?_
        exact ih4 t4 t6 hk4
      refine r_iload_n C dX10_dishonest_4 rfl ?_
      refine r_aload_n C dX10_dishonest_5 rfl ?_
      obtain ⟨t8, e9, hf1⟩ := ob hf1
      refine r_getR C fk_X10_27 rfl dX10_dishonest_6 e9 ?_
      obtain ⟨t10, e11, hf1⟩ := ob hf1
      refine r_getR C fk_X10_109 rfl dX10_dishonest_9 e11 ?_
      obtain ⟨t12, e13, hf1⟩ := ob hf1
      refine r_getI C fk_X10_94 rfl dX10_dishonest_12 e13 ?_
      refine r_icmp_ge (tgt := 39) C dX10_dishonest_15 (by decide) (fun c14 => ?_) (fun c14 => ?_)
      · rw [if_pos c14] at hf1
        obtain rfl := so hf1
        obtain rfl := so (show some t2 = some y1 from hk4)
        refine r_iload_n C dX10_dishonest_39 rfl ?_
        obtain rfl := so hf0
        exact r_iret C dX10_dishonest_40
      · rw [if_neg c14] at hf1
        refine r_aload_n C dX10_dishonest_18 rfl ?_
        obtain ⟨t15, e16, hf1⟩ := ob hf1
        refine r_getR C fk_X10_9 rfl dX10_dishonest_19 e16 ?_
        refine r_iload_n C dX10_dishonest_22 rfl ?_
        obtain ⟨t17, e18, hf1⟩ := ob hf1
        refine r_ldI C dX10_dishonest_23 e18 ?_
        refine r_ifeq (tgt := 33) C dX10_dishonest_24 (by decide) (fun c19 => ?_) (fun c19 => ?_)
        · rw [if_pos c19] at hf1
          exact J33 t2 t3 hf1
        · rw [if_neg c19] at hf1
          refine r_iload_n C dX10_dishonest_27 rfl ?_
          refine r_iconst (v := 1) C dX10_dishonest_28 (by decide) ?_
          refine r_iload_n C dX10_dishonest_29 rfl ?_
          refine r_ishl C dX10_dishonest_30 ?_
          refine r_ior C dX10_dishonest_31 ?_
          obtain ⟨t20, e21, hf1⟩ := ob hf1
          refine r_istore_n (lv' := [(1, .int t20), (0, .ref v0), (2, .int t3)]) C dX10_dishonest_32 (by decide) e21 rfl ?_
          refine r_subk [1, 0, 2] (lv' := [(0, .ref v0), (1, .int t20), (2, .int t3)]) rfl ?_
          exact J33 t20 t3 hf1
  refine r_subk [2, 1, 0] (lv' := [(0, .ref v0), (1, .int (0 : Int32)), (2, .int (0 : Int32))]) rfl ?_
  exact L4 wN (0 : Int32) (0 : Int32) hl4
def f_X11_init (h : aH) (v0 : Nat) : Option (aH) := bd2 (nwO h 20 4) fun t1 h2 => (pR h2 11 v0 0 t1).bind fun h3 => bd2 (nwO h3 20 4) fun t4 h5 => (pR h5 11 v0 1 t4).bind fun h6 => bd2 (nwO h6 21 240) fun t7 h8 => (pR h8 11 v0 2 t7).bind fun h9 => bd2 (nwO h9 4 14) fun t10 h11 => (f_X4_init h11 t10).bind fun h12 => (pR h12 11 v0 3 t10).bind fun h13 => bd2 (nwO h13 24 5) fun t14 h15 => (pR h15 11 v0 4 t14).bind fun h16 => bd2 (nwO h16 25 3) fun t17 h18 => (pR h18 11 v0 9 t17).bind fun h19 => bd2 (nwO h19 20 6) fun t20 h21 => (pR h21 11 v0 10 t20).bind fun h22 => bd2 (nwO h22 8 8) fun t23 h24 => (f_X8_init h24 t23).bind fun h25 => (pR h25 11 v0 12 t23).bind fun h26 => bd2 (nwO h26 8 8) fun t27 h28 => (f_X8_init h28 t27).bind fun h29 => (pR h29 11 v0 13 t27).bind fun h30 => (pI h30 11 v0 14 (0 : Int32)).bind fun h31 => (pI h31 11 v0 15 (-1 : Int32)).bind fun h32 => (pZ h32 11 v0 16 (0 : Int32)).bind fun h33 => (pI h33 11 v0 17 (0 : Int32)).bind fun h34 => (pJ h34 11 v0 18 (0 : Int64)).bind fun h35 => (pJ h35 11 v0 19 (1 : Int64)).bind fun h36 => bd2 (nwO h36 1 19) fun t37 h38 => (f_X1_init h38 t37).bind fun h39 => (pR h39 11 v0 11 t37).bind fun h40 => (gR h40 11 v0 4).bind fun t41 => (sR h40 24 t41 (0 : Int32) 1 t37).bind fun h42 => bd2 (nwO h42 2 8) fun t43 h44 => (gR h44 11 v0 3).bind fun t45 => (f_X2_init h44 t43 t45 t37).bind fun h46 => (pR h46 11 v0 5 t43).bind fun h47 => bd2 (nwO h47 3 7) fun t48 h49 => (f_X3_init h49 t48 t37).bind fun h50 => (pR h50 11 v0 6 t48).bind fun h51 => bd2 (nwO h51 9 9) fun t52 h53 => (gR h53 11 v0 6).bind fun t54 => (f_X9_init h53 t52 t54).bind fun h55 => (pR h55 11 v0 7 t52).bind fun h56 => bd2 (nwO h56 10 4) fun t57 h58 => (f_X10_init h58 t57 t37).bind fun h59 => (pR h59 11 v0 8 t57).bind fun h60 => (gR h60 11 v0 9).bind fun t61 => bd2 (nwO h60 5 3) fun t62 h63 => (f_X5_init h63 t62 t37).bind fun h64 => (sR h64 25 t61 (0 : Int32) 5 t62).bind fun h65 => (gR h65 11 v0 9).bind fun t66 => bd2 (nwO h65 5 3) fun t67 h68 => (f_X5_init h68 t67 t37).bind fun h69 => (sR h69 25 t66 (1 : Int32) 5 t67).bind fun h70 => (gR h70 11 v0 9).bind fun t71 => bd2 (nwO h70 5 3) fun t72 h73 => (f_X5_init h73 t72 t37).bind fun h74 => (sR h74 25 t71 (2 : Int32) 5 t72).bind fun h75 => (gR h75 11 v0 0).bind fun t76 => (f_J7_fill_53178 h75 t76 (-1 : Int32)).bind fun h77 => some h77
theorem s_X11_init {h : aH} {v0 : Nat} {out : aH} (hf0 : f_X11_init h v0 = some out) : EV 9 yX11_init cX11_init 3 none h [.ref v0] none out 112 25260 := by
  refine EV.of (own := RX11) (lv0 := [(0, .ref v0)]) (by decide +kernel) rfl rfl (Nat.le_of_ble_eq_true rfl) ?_
  intro p l e s m args below meth c D cA B Hb C hin
  unfold f_X11_init at hf0
  refine r_aload_n C dX11_init_0 rfl ?_
  refine r_obj C lk_X11_1 dX11_init_1 ⟨Nat.le_of_ble_eq_true rfl, Nat.le_of_ble_eq_true rfl⟩ (Nat.le_of_ble_eq_true rfl) ?_
  refine r_aload_n C dX11_init_4 rfl ?_
  refine r_iconst (v := 4) C dX11_init_5 (by decide) ?_
  obtain ⟨t1, h2, e3, hf0⟩ := ob2 hf0
  refine r_newIE C dX11_init_6 (by decide) (by decide) (by decide) ⟨Nat.le_of_ble_eq_true rfl, Nat.le_of_ble_eq_true rfl⟩ e3 ?_
  obtain ⟨h4, e5, hf0⟩ := ob hf0
  refine r_putFR C fk_X11_9 ⟨_, _, rfl⟩ (Or.inr ⟨_, rfl⟩) hin dX11_init_8 e5 ?_
  refine r_aload_n C dX11_init_11 rfl ?_
  refine r_iconst (v := 4) C dX11_init_12 (by decide) ?_
  obtain ⟨t6, h7, e8, hf0⟩ := ob2 hf0
  refine r_newIE C dX11_init_13 (by decide) (by decide) (by decide) ⟨Nat.le_of_ble_eq_true rfl, Nat.le_of_ble_eq_true rfl⟩ e8 ?_
  obtain ⟨h9, e10, hf0⟩ := ob hf0
  refine r_putFR C fk_X11_13 ⟨_, _, rfl⟩ (Or.inr ⟨_, rfl⟩) hin dX11_init_15 e10 ?_
  refine r_aload_n C dX11_init_18 rfl ?_
  refine r_sipush (v := 240) C dX11_init_19 (by decide) ?_
  obtain ⟨t11, h12, e13, hf0⟩ := ob2 hf0
  refine r_newJE C dX11_init_22 (by decide) (by decide) (by decide) ⟨Nat.le_of_ble_eq_true rfl, Nat.le_of_ble_eq_true rfl⟩ e13 ?_
  obtain ⟨h14, e15, hf0⟩ := ob hf0
  refine r_putFR C fk_X11_16 ⟨_, _, rfl⟩ (Or.inr ⟨_, rfl⟩) hin dX11_init_24 e15 ?_
  refine r_aload_n C dX11_init_27 rfl ?_
  obtain ⟨t16, h17, e18, hf0⟩ := ob2 hf0
  refine r_newE C nk_X11_20 dX11_init_28 ⟨Nat.le_of_ble_eq_true rfl, Nat.le_of_ble_eq_true rfl⟩ e18 ?_
  refine r_dup C dX11_init_31 rfl ?_
  obtain ⟨h19, e20, hf0⟩ := ob hf0
  refine r_callI (rest := [.ref t16, .ref v0]) C (s_X4_init e20) mk_X4_init rfl im_X4_init lk_X11_22 rfl rfl dX11_init_32 (Nat.le_of_ble_eq_true rfl) ⟨Nat.le_of_ble_eq_true rfl, Nat.le_of_ble_eq_true rfl⟩ ⟨Nat.le_of_ble_eq_true rfl, Nat.le_of_ble_eq_true rfl⟩ ?_
  obtain ⟨h21, e22, hf0⟩ := ob hf0
  refine r_putFR C fk_X11_23 ⟨_, _, rfl⟩ (Or.inl ⟨_, rfl⟩) hin dX11_init_35 e22 ?_
  refine r_aload_n C dX11_init_38 rfl ?_
  refine r_iconst (v := 5) C dX11_init_39 (by decide) ?_
  obtain ⟨t23, h24, e25, hf0⟩ := ob2 hf0
  refine r_newQ24E C ck_X11_27 dX11_init_40 (by decide) (by decide) (by decide) ⟨Nat.le_of_ble_eq_true rfl, Nat.le_of_ble_eq_true rfl⟩ e25 ?_
  obtain ⟨h26, e27, hf0⟩ := ob hf0
  refine r_putFR C fk_X11_29 ⟨_, _, rfl⟩ (Or.inr ⟨_, rfl⟩) hin dX11_init_43 e27 ?_
  refine r_aload_n C dX11_init_46 rfl ?_
  refine r_iconst (v := 3) C dX11_init_47 (by decide) ?_
  obtain ⟨t28, h29, e30, hf0⟩ := ob2 hf0
  refine r_newQ25E C ck_X11_33 dX11_init_48 (by decide) (by decide) (by decide) ⟨Nat.le_of_ble_eq_true rfl, Nat.le_of_ble_eq_true rfl⟩ e30 ?_
  obtain ⟨h31, e32, hf0⟩ := ob hf0
  refine r_putFR C fk_X11_35 ⟨_, _, rfl⟩ (Or.inr ⟨_, rfl⟩) hin dX11_init_51 e32 ?_
  refine r_aload_n C dX11_init_54 rfl ?_
  refine r_bipush (v := 6) C dX11_init_55 (by decide) ?_
  obtain ⟨t33, h34, e35, hf0⟩ := ob2 hf0
  refine r_newIE C dX11_init_57 (by decide) (by decide) (by decide) ⟨Nat.le_of_ble_eq_true rfl, Nat.le_of_ble_eq_true rfl⟩ e35 ?_
  obtain ⟨h36, e37, hf0⟩ := ob hf0
  refine r_putFR C fk_X11_39 ⟨_, _, rfl⟩ (Or.inr ⟨_, rfl⟩) hin dX11_init_59 e37 ?_
  refine r_aload_n C dX11_init_62 rfl ?_
  obtain ⟨t38, h39, e40, hf0⟩ := ob2 hf0
  refine r_newE C nk_X11_42 dX11_init_63 ⟨Nat.le_of_ble_eq_true rfl, Nat.le_of_ble_eq_true rfl⟩ e40 ?_
  refine r_dup C dX11_init_66 rfl ?_
  obtain ⟨h41, e42, hf0⟩ := ob hf0
  refine r_callIN (rest := [.ref t38, .ref v0]) C (s_X8_init e42) mk_X8_init rfl im_X8_init ln_X11_44 rfl rfl dX11_init_67 (Nat.le_of_ble_eq_true rfl) ⟨Nat.le_of_ble_eq_true rfl, Nat.le_of_ble_eq_true rfl⟩ ⟨Nat.le_of_ble_eq_true rfl, Nat.le_of_ble_eq_true rfl⟩ ?_
  obtain ⟨h43, e44, hf0⟩ := ob hf0
  refine r_putR C fk_X11_45 (Or.inl ⟨_, rfl⟩) dX11_init_70 e44 ?_
  refine r_aload_n C dX11_init_73 rfl ?_
  obtain ⟨t45, h46, e47, hf0⟩ := ob2 hf0
  refine r_newE C nk_X11_42 dX11_init_74 ⟨Nat.le_of_ble_eq_true rfl, Nat.le_of_ble_eq_true rfl⟩ e47 ?_
  refine r_dup C dX11_init_77 rfl ?_
  obtain ⟨h48, e49, hf0⟩ := ob hf0
  refine r_callIN (rest := [.ref t45, .ref v0]) C (s_X8_init e49) mk_X8_init rfl im_X8_init ln_X11_44 rfl rfl dX11_init_78 (Nat.le_of_ble_eq_true rfl) ⟨Nat.le_of_ble_eq_true rfl, Nat.le_of_ble_eq_true rfl⟩ ⟨Nat.le_of_ble_eq_true rfl, Nat.le_of_ble_eq_true rfl⟩ ?_
  obtain ⟨h50, e51, hf0⟩ := ob hf0
  refine r_putR C fk_X11_49 (Or.inl ⟨_, rfl⟩) dX11_init_81 e51 ?_
  refine r_aload_n C dX11_init_84 rfl ?_
  refine r_iconst (v := 0) C dX11_init_85 (by decide) ?_
  obtain ⟨h52, e53, hf0⟩ := ob hf0
  refine r_putI C fk_X11_52 dX11_init_86 e53 ?_
  refine r_aload_n C dX11_init_89 rfl ?_
  refine r_iconst (v := -1) C dX11_init_90 (by decide) ?_
  obtain ⟨h54, e55, hf0⟩ := ob hf0
  refine r_putI C fk_X11_56 dX11_init_91 e55 ?_
  refine r_aload_n C dX11_init_94 rfl ?_
  refine r_iconst (v := 0) C dX11_init_95 (by decide) ?_
  obtain ⟨h56, e57, hf0⟩ := ob hf0
  refine r_putZ C fk_X11_59 dX11_init_96 e57 ?_
  refine r_aload_n C dX11_init_99 rfl ?_
  refine r_iconst (v := 0) C dX11_init_100 (by decide) ?_
  obtain ⟨h58, e59, hf0⟩ := ob hf0
  refine r_putI C fk_X11_63 dX11_init_101 e59 ?_
  refine r_aload_n C dX11_init_104 rfl ?_
  refine r_lconst (v := 0) C dX11_init_105 (by decide) ?_
  obtain ⟨h60, e61, hf0⟩ := ob hf0
  refine r_putJ C fk_X11_66 dX11_init_106 e61 ?_
  refine r_aload_n C dX11_init_109 rfl ?_
  refine r_lconst (v := 1) C dX11_init_110 (by decide) ?_
  obtain ⟨h62, e63, hf0⟩ := ob hf0
  refine r_putJ C fk_X11_70 dX11_init_111 e63 ?_
  obtain ⟨t64, h65, e66, hf0⟩ := ob2 hf0
  refine r_newE C nk_X11_27 dX11_init_114 ⟨Nat.le_of_ble_eq_true rfl, Nat.le_of_ble_eq_true rfl⟩ e66 ?_
  refine r_dup C dX11_init_117 rfl ?_
  obtain ⟨h67, e68, hf0⟩ := ob hf0
  refine r_callI (rest := [.ref t64]) C (s_X1_init e68) mk_X1_init rfl im_X1_init lk_X11_73 rfl rfl dX11_init_118 (Nat.le_of_ble_eq_true rfl) ⟨Nat.le_of_ble_eq_true rfl, Nat.le_of_ble_eq_true rfl⟩ ⟨Nat.le_of_ble_eq_true rfl, Nat.le_of_ble_eq_true rfl⟩ ?_
  refine r_astore_n (lv' := [(1, .ref t64), (0, .ref v0)]) C dX11_init_121 (by decide) rfl rfl ?_
  refine r_aload_n C dX11_init_122 rfl ?_
  refine r_aload_n C dX11_init_123 rfl ?_
  obtain ⟨h69, e70, hf0⟩ := ob hf0
  refine r_putR C fk_X11_74 (Or.inl ⟨_, rfl⟩) dX11_init_124 e70 ?_
  refine r_aload_n C dX11_init_127 rfl ?_
  obtain ⟨t71, e72, hf0⟩ := ob hf0
  refine r_getR C fk_X11_29 rfl dX11_init_128 e72 ?_
  refine r_iconst (v := 0) C dX11_init_131 (by decide) ?_
  refine r_aload_n C dX11_init_132 rfl ?_
  obtain ⟨h73, e74, hf0⟩ := ob hf0
  refine r_stQ24 C dX11_init_133 e74 ?_
  refine r_aload_n C dX11_init_134 rfl ?_
  obtain ⟨t75, h76, e77, hf0⟩ := ob2 hf0
  refine r_newE C nk_X11_78 dX11_init_135 ⟨Nat.le_of_ble_eq_true rfl, Nat.le_of_ble_eq_true rfl⟩ e77 ?_
  refine r_dup C dX11_init_138 rfl ?_
  refine r_aload_n C dX11_init_139 rfl ?_
  obtain ⟨t78, e79, hf0⟩ := ob hf0
  refine r_getR C fk_X11_23 rfl dX11_init_140 e79 ?_
  refine r_aload_n C dX11_init_143 rfl ?_
  obtain ⟨h80, e81, hf0⟩ := ob hf0
  refine r_callI (rest := [.ref t75, .ref v0]) C (s_X2_init e81) mk_X2_init rfl im_X2_init lk_X11_80 rfl rfl dX11_init_144 (Nat.le_of_ble_eq_true rfl) ⟨Nat.le_of_ble_eq_true rfl, Nat.le_of_ble_eq_true rfl⟩ ⟨Nat.le_of_ble_eq_true rfl, Nat.le_of_ble_eq_true rfl⟩ ?_
  obtain ⟨h82, e83, hf0⟩ := ob hf0
  refine r_putFR C fk_X11_83 ⟨_, _, rfl⟩ (Or.inl ⟨_, rfl⟩) hin dX11_init_147 e83 ?_
  refine r_aload_n C dX11_init_150 rfl ?_
  obtain ⟨t84, h85, e86, hf0⟩ := ob2 hf0
  refine r_newE C nk_X11_87 dX11_init_151 ⟨Nat.le_of_ble_eq_true rfl, Nat.le_of_ble_eq_true rfl⟩ e86 ?_
  refine r_dup C dX11_init_154 rfl ?_
  refine r_aload_n C dX11_init_155 rfl ?_
  obtain ⟨h87, e88, hf0⟩ := ob hf0
  refine r_callI (rest := [.ref t84, .ref v0]) C (s_X3_init e88) mk_X3_init rfl im_X3_init lk_X11_89 rfl rfl dX11_init_156 (Nat.le_of_ble_eq_true rfl) ⟨Nat.le_of_ble_eq_true rfl, Nat.le_of_ble_eq_true rfl⟩ ⟨Nat.le_of_ble_eq_true rfl, Nat.le_of_ble_eq_true rfl⟩ ?_
  obtain ⟨h89, e90, hf0⟩ := ob hf0
  refine r_putFR C fk_X11_92 ⟨_, _, rfl⟩ (Or.inl ⟨_, rfl⟩) hin dX11_init_159 e90 ?_
  refine r_aload_n C dX11_init_162 rfl ?_
  obtain ⟨t91, h92, e93, hf0⟩ := ob2 hf0
  refine r_newE C nk_X11_96 dX11_init_163 ⟨Nat.le_of_ble_eq_true rfl, Nat.le_of_ble_eq_true rfl⟩ e93 ?_
  refine r_dup C dX11_init_166 rfl ?_
  refine r_aload_n C dX11_init_167 rfl ?_
  obtain ⟨t94, e95, hf0⟩ := ob hf0
  refine r_getR C fk_X11_92 rfl dX11_init_168 e95 ?_
  obtain ⟨h96, e97, hf0⟩ := ob hf0
  refine r_callI (rest := [.ref t91, .ref v0]) C (s_X9_init e97) mk_X9_init rfl im_X9_init lk_X11_98 rfl rfl dX11_init_171 (Nat.le_of_ble_eq_true rfl) ⟨Nat.le_of_ble_eq_true rfl, Nat.le_of_ble_eq_true rfl⟩ ⟨Nat.le_of_ble_eq_true rfl, Nat.le_of_ble_eq_true rfl⟩ ?_
  obtain ⟨h98, e99, hf0⟩ := ob hf0
  refine r_putFR C fk_X11_101 ⟨_, _, rfl⟩ (Or.inl ⟨_, rfl⟩) hin dX11_init_174 e99 ?_
  refine r_aload_n C dX11_init_177 rfl ?_
  obtain ⟨t100, h101, e102, hf0⟩ := ob2 hf0
  refine r_newE C nk_X11_105 dX11_init_178 ⟨Nat.le_of_ble_eq_true rfl, Nat.le_of_ble_eq_true rfl⟩ e102 ?_
  refine r_dup C dX11_init_181 rfl ?_
  refine r_aload_n C dX11_init_182 rfl ?_
  obtain ⟨h103, e104, hf0⟩ := ob hf0
  refine r_callI (rest := [.ref t100, .ref v0]) C (s_X10_init e104) mk_X10_init rfl im_X10_init lk_X11_107 rfl rfl dX11_init_183 (Nat.le_of_ble_eq_true rfl) ⟨Nat.le_of_ble_eq_true rfl, Nat.le_of_ble_eq_true rfl⟩ ⟨Nat.le_of_ble_eq_true rfl, Nat.le_of_ble_eq_true rfl⟩ ?_
  obtain ⟨h105, e106, hf0⟩ := ob hf0
  refine r_putFR C fk_X11_108 ⟨_, _, rfl⟩ (Or.inl ⟨_, rfl⟩) hin dX11_init_186 e106 ?_
  refine r_iconst (v := 0) C dX11_init_189 (by decide) ?_
  refine r_istore_n (lv' := [(2, .int (0 : Int32)), (1, .ref t64), (0, .ref v0)]) C dX11_init_190 (by decide) rfl rfl ?_
  refine r_iload_n C dX11_init_191 rfl ?_
  refine r_iconst (v := 3) C dX11_init_192 (by decide) ?_
  refine r_icmp_ge (tgt := 216) C dX11_init_193 (by decide) (fun cz => absurd cz (by decide)) (fun cz => ?_)
  refine r_aload_n C dX11_init_196 rfl ?_
  obtain ⟨t107, e108, hf0⟩ := ob hf0
  refine r_getR C fk_X11_35 rfl dX11_init_197 e108 ?_
  refine r_iload_n C dX11_init_200 rfl ?_
  obtain ⟨t109, h110, e111, hf0⟩ := ob2 hf0
  refine r_newE C nk_X11_33 dX11_init_201 ⟨Nat.le_of_ble_eq_true rfl, Nat.le_of_ble_eq_true rfl⟩ e111 ?_
  refine r_dup C dX11_init_204 rfl ?_
  refine r_aload_n C dX11_init_205 rfl ?_
  obtain ⟨h112, e113, hf0⟩ := ob hf0
  refine r_callI (rest := [.ref t109, .int (0 : Int32), .ref t107]) C (s_X5_init e113) mk_X5_init rfl im_X5_init lk_X11_112 rfl rfl dX11_init_206 (Nat.le_of_ble_eq_true rfl) ⟨Nat.le_of_ble_eq_true rfl, Nat.le_of_ble_eq_true rfl⟩ ⟨Nat.le_of_ble_eq_true rfl, Nat.le_of_ble_eq_true rfl⟩ ?_
  obtain ⟨h114, e115, hf0⟩ := ob hf0
  refine r_stQ25 C dX11_init_209 e115 ?_
  refine r_iinc (v := 1) (lv' := [(2, .int (1 : Int32)), (1, .ref t64), (0, .ref v0)]) C dX11_init_210 rfl (by decide) (by decide) rfl ?_
  refine r_goto (tgt := 191) C dX11_init_213 (by decide) ?_
  refine r_iload_n C dX11_init_191 rfl ?_
  refine r_iconst (v := 3) C dX11_init_192 (by decide) ?_
  refine r_icmp_ge (tgt := 216) C dX11_init_193 (by decide) (fun cz => absurd cz (by decide)) (fun cz => ?_)
  refine r_aload_n C dX11_init_196 rfl ?_
  obtain ⟨t116, e117, hf0⟩ := ob hf0
  refine r_getR C fk_X11_35 rfl dX11_init_197 e117 ?_
  refine r_iload_n C dX11_init_200 rfl ?_
  obtain ⟨t118, h119, e120, hf0⟩ := ob2 hf0
  refine r_newE C nk_X11_33 dX11_init_201 ⟨Nat.le_of_ble_eq_true rfl, Nat.le_of_ble_eq_true rfl⟩ e120 ?_
  refine r_dup C dX11_init_204 rfl ?_
  refine r_aload_n C dX11_init_205 rfl ?_
  obtain ⟨h121, e122, hf0⟩ := ob hf0
  refine r_callI (rest := [.ref t118, .int (1 : Int32), .ref t116]) C (s_X5_init e122) mk_X5_init rfl im_X5_init lk_X11_112 rfl rfl dX11_init_206 (Nat.le_of_ble_eq_true rfl) ⟨Nat.le_of_ble_eq_true rfl, Nat.le_of_ble_eq_true rfl⟩ ⟨Nat.le_of_ble_eq_true rfl, Nat.le_of_ble_eq_true rfl⟩ ?_
  obtain ⟨h123, e124, hf0⟩ := ob hf0
  refine r_stQ25 C dX11_init_209 e124 ?_
  refine r_iinc (v := 2) (lv' := [(2, .int (2 : Int32)), (1, .ref t64), (0, .ref v0)]) C dX11_init_210 rfl (by decide) (by decide) rfl ?_
  refine r_goto (tgt := 191) C dX11_init_213 (by decide) ?_
  refine r_iload_n C dX11_init_191 rfl ?_
  refine r_iconst (v := 3) C dX11_init_192 (by decide) ?_
  refine r_icmp_ge (tgt := 216) C dX11_init_193 (by decide) (fun cz => absurd cz (by decide)) (fun cz => ?_)
  refine r_aload_n C dX11_init_196 rfl ?_
  obtain ⟨t125, e126, hf0⟩ := ob hf0
  refine r_getR C fk_X11_35 rfl dX11_init_197 e126 ?_
  refine r_iload_n C dX11_init_200 rfl ?_
  obtain ⟨t127, h128, e129, hf0⟩ := ob2 hf0
  refine r_newE C nk_X11_33 dX11_init_201 ⟨Nat.le_of_ble_eq_true rfl, Nat.le_of_ble_eq_true rfl⟩ e129 ?_
  refine r_dup C dX11_init_204 rfl ?_
  refine r_aload_n C dX11_init_205 rfl ?_
  obtain ⟨h130, e131, hf0⟩ := ob hf0
  refine r_callI (rest := [.ref t127, .int (2 : Int32), .ref t125]) C (s_X5_init e131) mk_X5_init rfl im_X5_init lk_X11_112 rfl rfl dX11_init_206 (Nat.le_of_ble_eq_true rfl) ⟨Nat.le_of_ble_eq_true rfl, Nat.le_of_ble_eq_true rfl⟩ ⟨Nat.le_of_ble_eq_true rfl, Nat.le_of_ble_eq_true rfl⟩ ?_
  obtain ⟨h132, e133, hf0⟩ := ob hf0
  refine r_stQ25 C dX11_init_209 e133 ?_
  refine r_iinc (v := 3) (lv' := [(2, .int (3 : Int32)), (1, .ref t64), (0, .ref v0)]) C dX11_init_210 rfl (by decide) (by decide) rfl ?_
  refine r_goto (tgt := 191) C dX11_init_213 (by decide) ?_
  refine r_iload_n C dX11_init_191 rfl ?_
  refine r_iconst (v := 3) C dX11_init_192 (by decide) ?_
  refine r_icmp_ge (tgt := 216) C dX11_init_193 (by decide) (fun cz => ?_) (fun cz => absurd cz (by decide))
  refine r_aload_n C dX11_init_216 rfl ?_
  obtain ⟨t134, e135, hf0⟩ := ob hf0
  refine r_getR C fk_X11_9 rfl dX11_init_217 e135 ?_
  refine r_iconst (v := -1) C dX11_init_220 (by decide) ?_
  obtain ⟨h136, e137, hf0⟩ := ob hf0
  refine r_cS (rest := []) (st2 := []) C (s_J7_fill_53178 e137) mk_J7_fill_53178 sm_J7_fill_53178 lk_X11_113 rfl rfl rfl dX11_init_221 (Nat.le_of_ble_eq_true rfl) ⟨Nat.le_of_ble_eq_true rfl, Nat.le_of_ble_eq_true rfl⟩ ⟨Nat.le_of_ble_eq_true rfl, Nat.le_of_ble_eq_true rfl⟩ ?_
  obtain rfl := so hf0
  exact r_vret C dX11_init_224
def f_X11_status (h : aH) (v0 : Nat) : Option (Int32) := (gI h 11 v0 17).bind fun t1 => some t1
theorem s_X11_status {h : aH} {v0 : Nat} {out : Int32} (hf0 : f_X11_status h v0 = some out) : EV 0 yX11_status cX11_status 1 (some .int) h [.ref v0] (some (.int out)) h 0 0 := by
  refine EV.of (own := RX11) (lv0 := [(0, .ref v0)]) (by decide +kernel) rfl rfl (Nat.le_of_ble_eq_true rfl) ?_
  intro p l e s m args below meth c D cA B Hb C hin
  unfold f_X11_status at hf0
  refine r_aload_n C dX11_status_0 rfl ?_
  obtain ⟨t1, e2, hf0⟩ := ob hf0
  refine r_getI C fk_X11_63 rfl dX11_status_1 e2 ?_
  obtain rfl := so hf0
  exact r_iret C dX11_status_4
def f_X11_top (h : aH) (v0 : Nat) : Option (Int64) := (gJ h 11 v0 18).bind fun t1 => some t1
theorem s_X11_top {h : aH} {v0 : Nat} {out : Int64} (hf0 : f_X11_top h v0 = some out) : EV 0 yX11_top cX11_top 1 (some .long) h [.ref v0] (some (.long out)) h 0 0 := by
  refine EV.of (own := RX11) (lv0 := [(0, .ref v0)]) (by decide +kernel) rfl rfl (Nat.le_of_ble_eq_true rfl) ?_
  intro p l e s m args below meth c D cA B Hb C hin
  unfold f_X11_top at hf0
  refine r_aload_n C dX11_top_0 rfl ?_
  obtain ⟨t1, e2, hf0⟩ := ob hf0
  refine r_getJ C fk_X11_66 rfl dX11_top_1 e2 ?_
  obtain rfl := so hf0
  exact r_lret C dX11_top_4
def f_X11_bottom (h : aH) (v0 : Nat) : Option (Int64) := (gJ h 11 v0 19).bind fun t1 => some t1
theorem s_X11_bottom {h : aH} {v0 : Nat} {out : Int64} (hf0 : f_X11_bottom h v0 = some out) : EV 0 yX11_bottom cX11_bottom 1 (some .long) h [.ref v0] (some (.long out)) h 0 0 := by
  refine EV.of (own := RX11) (lv0 := [(0, .ref v0)]) (by decide +kernel) rfl rfl (Nat.le_of_ble_eq_true rfl) ?_
  intro p l e s m args below meth c D cA B Hb C hin
  unfold f_X11_bottom at hf0
  refine r_aload_n C dX11_bottom_0 rfl ?_
  obtain ⟨t1, e2, hf0⟩ := ob hf0
  refine r_getJ C fk_X11_70 rfl dX11_bottom_1 e2 ?_
  obtain rfl := so hf0
  exact r_lret C dX11_bottom_4
def f_X11_below (h : aH) (v0 : Int32) (v1 : Int32) : Option (Int32) := if v0 < 0 then some (0 : Int32) else if v1 ≤ v0 then some (0 : Int32) else some (1 : Int32)
theorem s_X11_below {h : aH} {v0 : Int32} {v1 : Int32} {out : Int32} (hf0 : f_X11_below h v0 v1 = some out) : EV 0 yX11_below cX11_below 2 (some .boolean) h [.int v0, .int v1] (some (.int out)) h 0 0 := by
  refine EV.of (own := RX11) (lv0 := [(0, .int v0), (1, .int v1)]) (by decide +kernel) rfl rfl (Nat.le_of_ble_eq_true rfl) ?_
  intro p l e s m args below meth c D cA B Hb C hin
  unfold f_X11_below at hf0
  refine r_iload_n C dX11_below_0 rfl ?_
  refine r_iflt (tgt := 13) C dX11_below_1 (by decide) (fun c1 => ?_) (fun c1 => ?_)
  · rw [if_pos c1] at hf0
    refine r_iconst (v := 0) C dX11_below_13 (by decide) ?_
    obtain rfl := so hf0
    exact r_zret C dX11_below_14 (Or.inl rfl)
  · rw [if_neg c1] at hf0
    refine r_iload_n C dX11_below_4 rfl ?_
    refine r_iload_n C dX11_below_5 rfl ?_
    refine r_icmp_ge (tgt := 13) C dX11_below_6 (by decide) (fun c2 => ?_) (fun c2 => ?_)
    · rw [if_pos c2] at hf0
      refine r_iconst (v := 0) C dX11_below_13 (by decide) ?_
      obtain rfl := so hf0
      exact r_zret C dX11_below_14 (Or.inl rfl)
    · rw [if_neg c2] at hf0
      refine r_iconst (v := 1) C dX11_below_9 (by decide) ?_
      refine r_goto (tgt := 14) C dX11_below_10 (by decide) ?_
      obtain rfl := so hf0
      exact r_zret C dX11_below_14 (Or.inr rfl)
def f_X11_deny (h : aH) (v0 : Nat) (v1 : Int32) : Option (Int32 × aH) := (pI h 11 v0 17 v1).bind fun h1 => some ((0 : Int32), h1)
theorem s_X11_deny {h : aH} {v0 : Nat} {v1 : Int32} {out : Int32 × aH} (hf0 : f_X11_deny h v0 v1 = some out) : EV 0 yX11_deny cX11_deny 2 (some .boolean) h [.ref v0, .int v1] (some (.int out.1)) out.2 0 0 := by
  refine EV.of (own := RX11) (lv0 := [(0, .ref v0), (1, .int v1)]) (by decide +kernel) rfl rfl (Nat.le_of_ble_eq_true rfl) ?_
  intro p l e s m args below meth c D cA B Hb C hin
  unfold f_X11_deny at hf0
  refine r_aload_n C dX11_deny_0 rfl ?_
  refine r_iload_n C dX11_deny_1 rfl ?_
  obtain ⟨h1, e2, hf0⟩ := ob hf0
  refine r_putI C fk_X11_63 dX11_deny_2 e2 ?_
  refine r_iconst (v := 0) C dX11_deny_5 (by decide) ?_
  obtain rfl := so hf0
  exact r_zret C dX11_deny_6 (Or.inl rfl)
def f_J7_rangeCheck_23922 (h : aH) (v0 : Int32) (v1 : Int32) (v2 : Int32) : Option (Unit) := if v1 ≤ v2 then if 0 ≤ v1 then if v2 ≤ v0 then some () else none else none else none
theorem s_J7_rangeCheck_23922 {h : aH} {v0 : Int32} {v1 : Int32} {v2 : Int32} {out : Unit} (hf0 : f_J7_rangeCheck_23922 h v0 v1 v2 = some out) : EV 0 yJ7_rangeCheck_23922 cJ7_rangeCheck_23922 3 none h [.int v0, .int v1, .int v2] none h 0 0 := by
  refine EV.of (own := RJ7) (lv0 := [(0, .int v0), (1, .int v1), (2, .int v2)]) (by decide +kernel) rfl rfl (Nat.le_of_ble_eq_true rfl) ?_
  intro p l e s m args below meth c D cA B Hb C hin
  unfold f_J7_rangeCheck_23922 at hf0
  refine r_iload_n C dJ7_rangeCheck_23922_0 rfl ?_
  refine r_iload_n C dJ7_rangeCheck_23922_1 rfl ?_
  refine r_icmp_le (tgt := 46) C dJ7_rangeCheck_23922_2 (by decide) (fun c1 => ?_) (fun c1 => ?_)
  · rw [if_pos c1] at hf0
    refine r_iload_n C dJ7_rangeCheck_23922_46 rfl ?_
    refine r_ifge (tgt := 59) C dJ7_rangeCheck_23922_47 (by decide) (fun c2 => ?_) (fun c2 => ?_)
    · rw [if_pos c2] at hf0
      refine r_iload_n C dJ7_rangeCheck_23922_59 rfl ?_
      refine r_iload_n C dJ7_rangeCheck_23922_60 rfl ?_
      refine r_icmp_le (tgt := 73) C dJ7_rangeCheck_23922_61 (by decide) (fun c3 => ?_) (fun c3 => ?_)
      · rw [if_pos c3] at hf0
        obtain rfl := so hf0
        exact r_vret C dJ7_rangeCheck_23922_73
      · rw [if_neg c3] at hf0
        cases hf0
    · rw [if_neg c2] at hf0
      cases hf0
  · rw [if_neg c1] at hf0
    cases hf0
def f_J7_fill_bad5a_b10 (v0 : Nat) (v2 : Int32) (v3 : Int64) (v5 : Int32) (h : aH) : Option ((Int32 × aH) ⊕ (aH)) := if v2 ≤ v5 then some (.inr h) else (sJ h v0 v5 v3).bind fun h2 => (some (v5 + (1 : Int32))).bind fun t3 => some (.inl (t3, h2))
def f_J7_fill_bad5a_l10 (v0 : Nat) (v2 : Int32) (v3 : Int64) (v5 : Int32) (h : aH) : Option (aH) := whileL wN (fun q : Int32 × aH => f_J7_fill_bad5a_b10 v0 v2 v3 q.1 q.2) (v5, h)
def f_J7_fill_bad5a (h : aH) (v0 : Nat) (v1 : Int32) (v2 : Int32) (v3 : Int64) : Option (aH) := (aN h v0).bind fun t1 => (f_J7_rangeCheck_23922 h t1 v1 v2).bind fun _ => (f_J7_fill_bad5a_l10 v0 v2 v3 v1 h).bind fun h4 => some h4
theorem s_J7_fill_bad5a {h : aH} {v0 : Nat} {v1 : Int32} {v2 : Int32} {v3 : Int64} {out : aH} (hf0 : f_J7_fill_bad5a h v0 v1 v2 v3 = some out) : EV 1 yJ7_fill_bad5a cJ7_fill_bad5a 6 none h [.ref v0, .int v1, .int v2, .long v3] none out 0 0 := by
  refine EV.of (own := RJ7) (lv0 := [(0, .ref v0), (1, .int v1), (2, .int v2), (3, .long v3)]) (by decide +kernel) rfl rfl (Nat.le_of_ble_eq_true rfl) ?_
  intro p l e s m args below meth c D cA B Hb C hin
  unfold f_J7_fill_bad5a at hf0
  refine r_aload_n C dJ7_fill_bad5a_0 rfl ?_
  obtain ⟨t1, e2, hf0⟩ := ob hf0
  refine r_alen C dJ7_fill_bad5a_1 e2 ?_
  refine r_iload_n C dJ7_fill_bad5a_2 rfl ?_
  refine r_iload_n C dJ7_fill_bad5a_3 rfl ?_
  obtain ⟨u4, e3, hf0⟩ := ob hf0
  refine r_cS (rest := []) (st2 := []) C (s_J7_rangeCheck_23922 e3) mk_J7_rangeCheck_23922 sm_J7_rangeCheck_23922 lk_J7_13 rfl rfl rfl dJ7_fill_bad5a_4 (Nat.le_of_ble_eq_true rfl) ⟨Nat.le_of_ble_eq_true rfl, Nat.le_of_ble_eq_true rfl⟩ ⟨Nat.le_of_ble_eq_true rfl, Nat.le_of_ble_eq_true rfl⟩ ?_
  refine r_iload_n C dJ7_fill_bad5a_7 rfl ?_
  refine r_istore (lv' := [(5, .int v1), (0, .ref v0), (1, .int v1), (2, .int v2), (3, .long v3)]) C dJ7_fill_bad5a_8 (by decide) rfl rfl ?_
  obtain ⟨y5, hl10, hf0⟩ := ob hf0
  have L10 : ∀ (n : Nat) (t6 : Int32) (h7 : aH), whileL n (fun q : Int32 × aH => f_J7_fill_bad5a_b10 v0 v2 v3 q.1 q.2) (t6, h7) = some y5 → gW p l e (rmO 1 0 0) s m args below meth c (MQ below (eQ D cA B Hb out none) args s 0 0 (fun q => B ≤ q)) D cA B Hb 6 h7 10 [(0, .ref v0), (2, .int v2), (3, .long v3), (5, .int t6)] [] 0 0 := by
    intro n
    induction n with
    | zero => intro t6 h7 hz; cases hz
    | succ n ih10 =>
      intro t6 h7 hz
      obtain ⟨x10, hf1, hk10⟩ := wl hz
      replace hf1 : f_J7_fill_bad5a_b10 v0 v2 v3 t6 h7 = some x10 := hf1
      unfold f_J7_fill_bad5a_b10 at hf1
      refine r_iload C dJ7_fill_bad5a_10 rfl ?_
      refine r_iload_n C dJ7_fill_bad5a_12 rfl ?_
      refine r_icmp_ge (tgt := 27) C dJ7_fill_bad5a_13 (by decide) (fun c8 => ?_) (fun c8 => ?_)
      · rw [if_pos c8] at hf1
        obtain rfl := so hf1
        obtain rfl := so (show some h7 = some y5 from hk10)
        obtain rfl := so hf0
        exact r_vret C dJ7_fill_bad5a_27
      · rw [if_neg c8] at hf1
        refine r_aload_n C dJ7_fill_bad5a_16 rfl ?_
        refine r_iload C dJ7_fill_bad5a_17 rfl ?_
        refine r_lload_n C dJ7_fill_bad5a_19 rfl ?_
        obtain ⟨h9, e10, hf1⟩ := ob hf1
        refine r_stJ C dJ7_fill_bad5a_20 e10 ?_
        obtain ⟨t11, e12, hf1⟩ := ob hf1
        refine r_iinc (lv' := [(5, .int t11), (0, .ref v0), (2, .int v2), (3, .long v3)]) C dJ7_fill_bad5a_21 rfl e12 (by decide) rfl ?_
        refine r_goto (tgt := 10) C dJ7_fill_bad5a_24 (by decide) ?_
        obtain rfl := so hf1
        refine r_subk [1, 2, 3, 0] (lv' := [(0, .ref v0), (2, .int v2), (3, .long v3), (5, .int t11)]) rfl ?_
        exact ih10 t11 h9 hk10
  refine r_subk [1, 3, 4, 0] (lv' := [(0, .ref v0), (2, .int v2), (3, .long v3), (5, .int v1)]) rfl ?_
  exact L10 wN v1 h hl10
def f_X11_grant (h : aH) (v0 : Nat) : Option (Int32 × aH) := (pI h 11 v0 17 (0 : Int32)).bind fun h1 => some ((1 : Int32), h1)
theorem s_X11_grant {h : aH} {v0 : Nat} {out : Int32 × aH} (hf0 : f_X11_grant h v0 = some out) : EV 0 yX11_grant cX11_grant 1 (some .boolean) h [.ref v0] (some (.int out.1)) out.2 0 0 := by
  refine EV.of (own := RX11) (lv0 := [(0, .ref v0)]) (by decide +kernel) rfl rfl (Nat.le_of_ble_eq_true rfl) ?_
  intro p l e s m args below meth c D cA B Hb C hin
  unfold f_X11_grant at hf0
  refine r_aload_n C dX11_grant_0 rfl ?_
  refine r_iconst (v := 0) C dX11_grant_1 (by decide) ?_
  obtain ⟨h1, e2, hf0⟩ := ob hf0
  refine r_putI C fk_X11_63 dX11_grant_2 e2 ?_
  refine r_iconst (v := 1) C dX11_grant_5 (by decide) ?_
  obtain rfl := so hf0
  exact r_zret C dX11_grant_6 (Or.inr rfl)
def f_X11_tray_j25 (h : aH) (v0 : Nat) : Option (Int32 × aH) := (ck h 11 v0).bind fun _ => bd2 (f_X11_deny h v0 (1 : Int32)) fun t1 h2 => (rZ t1).bind fun t3 => some (t3, h2)
def f_X11_tray (h : aH) (v0 : Nat) (v1 : Int32) (v2 : Int32) (v3 : Int32) : Option (Int32 × aH) := (f_X11_below h v1 (4 : Int32)).bind fun t4 => if t4 = 0 then f_X11_tray_j25 h v0 else (f_X11_below h v2 (4 : Int32)).bind fun t5 => if t5 = 0 then f_X11_tray_j25 h v0 else (f_X11_below h v3 (61 : Int32)).bind fun t6 => if t6 = 0 then f_X11_tray_j25 h v0 else (gR h 11 v0 0).bind fun t7 => (sI h t7 v1 v2).bind fun h8 => (gR h8 11 v0 1).bind fun t9 => (sI h8 t9 v1 v3).bind fun h10 => (some (v1 * (60 : Int32))).bind fun t11 => (gR h10 11 v0 2).bind fun t12 => (f_J7_fill_bad5a h10 t12 t11 (t11 + (60 : Int32)) (0 : Int64)).bind fun h13 => (ck h13 11 v0).bind fun _ => bd2 (f_X11_grant h13 v0) fun t14 h15 => (rZ t14).bind fun t16 => some (t16, h15)
theorem s_X11_tray {h : aH} {v0 : Nat} {v1 : Int32} {v2 : Int32} {v3 : Int32} {out : Int32 × aH} (hf0 : f_X11_tray h v0 v1 v2 v3 = some out) : EV 2 yX11_tray cX11_tray 5 (some .boolean) h [.ref v0, .int v1, .int v2, .int v3] (some (.int out.1)) out.2 0 0 := by
  refine EV.of (own := RX11) (lv0 := [(0, .ref v0), (1, .int v1), (2, .int v2), (3, .int v3)]) (by decide +kernel) rfl rfl (Nat.le_of_ble_eq_true rfl) ?_
  intro p l e s m args below meth c D cA B Hb C hin
  unfold f_X11_tray at hf0
  have J25 : ∀ (h1 : aH) (t2 : Nat), f_X11_tray_j25 h1 t2 = some out → gW p l e (rmO 2 0 0) s m args below meth c (MQ below (eQ D cA B Hb out.2 (some (.int out.1))) args s 0 0 (fun q => B ≤ q)) D cA B Hb 5 h1 25 [(0, .ref t2)] [] 0 0 := by
    intro h1 t2 hf0
    unfold f_X11_tray_j25 at hf0
    refine r_aload_n C dX11_tray_25 rfl ?_
    refine r_iconst (v := 1) C dX11_tray_26 (by decide) ?_
    obtain ⟨u4, e3, hf0⟩ := ob hf0
    obtain ⟨t5, h6, e7, hf0⟩ := ob2 hf0
    refine r_cV (ci := 11) (rest := []) (st2 := [.int t5]) C (s_X11_deny e7) mk_X11_deny rfl (ck_k e3) (by decide) im_X11_deny sl_X11_deny lk_X11_123 rfl rfl rfl dX11_tray_27 (Nat.le_of_ble_eq_true rfl) ⟨Nat.le_of_ble_eq_true rfl, Nat.le_of_ble_eq_true rfl⟩ ⟨Nat.le_of_ble_eq_true rfl, Nat.le_of_ble_eq_true rfl⟩ ?_
    obtain ⟨t8, e9, hf0⟩ := ob hf0
    obtain ⟨rfl, e9z⟩ := rZ_k e9
    obtain rfl := so hf0
    exact r_zret C dX11_tray_30 e9z
  refine r_iload_n C dX11_tray_0 rfl ?_
  refine r_iconst (v := 4) C dX11_tray_1 (by decide) ?_
  obtain ⟨t10, e11, hf0⟩ := ob hf0
  refine r_cS (rest := []) (st2 := [.int t10]) C (s_X11_below e11) mk_X11_below sm_X11_below lk_X11_119 rfl rfl rfl dX11_tray_2 (Nat.le_of_ble_eq_true rfl) ⟨Nat.le_of_ble_eq_true rfl, Nat.le_of_ble_eq_true rfl⟩ ⟨Nat.le_of_ble_eq_true rfl, Nat.le_of_ble_eq_true rfl⟩ ?_
  refine r_ifeq (tgt := 25) C dX11_tray_5 (by decide) (fun c12 => ?_) (fun c12 => ?_)
  · rw [if_pos c12] at hf0
    refine r_subk [0] (lv' := [(0, .ref v0)]) rfl ?_
    exact J25 h v0 hf0
  · rw [if_neg c12] at hf0
    refine r_iload_n C dX11_tray_8 rfl ?_
    refine r_iconst (v := 4) C dX11_tray_9 (by decide) ?_
    obtain ⟨t13, e14, hf0⟩ := ob hf0
    refine r_cS (rest := []) (st2 := [.int t13]) C (s_X11_below e14) mk_X11_below sm_X11_below lk_X11_119 rfl rfl rfl dX11_tray_10 (Nat.le_of_ble_eq_true rfl) ⟨Nat.le_of_ble_eq_true rfl, Nat.le_of_ble_eq_true rfl⟩ ⟨Nat.le_of_ble_eq_true rfl, Nat.le_of_ble_eq_true rfl⟩ ?_
    refine r_ifeq (tgt := 25) C dX11_tray_13 (by decide) (fun c15 => ?_) (fun c15 => ?_)
    · rw [if_pos c15] at hf0
      refine r_subk [0] (lv' := [(0, .ref v0)]) rfl ?_
      exact J25 h v0 hf0
    · rw [if_neg c15] at hf0
      refine r_iload_n C dX11_tray_16 rfl ?_
      refine r_bipush (v := 61) C dX11_tray_17 (by decide) ?_
      obtain ⟨t16, e17, hf0⟩ := ob hf0
      refine r_cS (rest := []) (st2 := [.int t16]) C (s_X11_below e17) mk_X11_below sm_X11_below lk_X11_119 rfl rfl rfl dX11_tray_19 (Nat.le_of_ble_eq_true rfl) ⟨Nat.le_of_ble_eq_true rfl, Nat.le_of_ble_eq_true rfl⟩ ⟨Nat.le_of_ble_eq_true rfl, Nat.le_of_ble_eq_true rfl⟩ ?_
      refine r_ifne (tgt := 31) C dX11_tray_22 (by decide) (fun c18 => ?_) (fun c18 => ?_)
      · rw [if_neg c18] at hf0
        refine r_aload_n C dX11_tray_31 rfl ?_
        obtain ⟨t19, e20, hf0⟩ := ob hf0
        refine r_getR C fk_X11_9 rfl dX11_tray_32 e20 ?_
        refine r_iload_n C dX11_tray_35 rfl ?_
        refine r_iload_n C dX11_tray_36 rfl ?_
        obtain ⟨h21, e22, hf0⟩ := ob hf0
        refine r_stI C dX11_tray_37 e22 ?_
        refine r_aload_n C dX11_tray_38 rfl ?_
        obtain ⟨t23, e24, hf0⟩ := ob hf0
        refine r_getR C fk_X11_13 rfl dX11_tray_39 e24 ?_
        refine r_iload_n C dX11_tray_42 rfl ?_
        refine r_iload_n C dX11_tray_43 rfl ?_
        obtain ⟨h25, e26, hf0⟩ := ob hf0
        refine r_stI C dX11_tray_44 e26 ?_
        refine r_iload_n C dX11_tray_45 rfl ?_
        refine r_bipush (v := 60) C dX11_tray_46 (by decide) ?_
        refine r_imul C dX11_tray_48 ?_
        obtain ⟨t27, e28, hf0⟩ := ob hf0
        refine r_istore (lv' := [(4, .int t27), (0, .ref v0), (1, .int v1), (2, .int v2), (3, .int v3)]) C dX11_tray_49 (by decide) e28 rfl ?_
        refine r_aload_n C dX11_tray_51 rfl ?_
        obtain ⟨t29, e30, hf0⟩ := ob hf0
        refine r_getR C fk_X11_16 rfl dX11_tray_52 e30 ?_
        refine r_iload C dX11_tray_55 rfl ?_
        refine r_iload C dX11_tray_57 rfl ?_
        refine r_bipush (v := 60) C dX11_tray_59 (by decide) ?_
        refine r_iadd C dX11_tray_61 ?_
        refine r_lconst (v := 0) C dX11_tray_62 (by decide) ?_
        obtain ⟨h31, e32, hf0⟩ := ob hf0
        refine r_cS (rest := []) (st2 := []) C (s_J7_fill_bad5a e32) mk_J7_fill_bad5a sm_J7_fill_bad5a lk_X11_127 rfl rfl rfl dX11_tray_63 (Nat.le_of_ble_eq_true rfl) ⟨Nat.le_of_ble_eq_true rfl, Nat.le_of_ble_eq_true rfl⟩ ⟨Nat.le_of_ble_eq_true rfl, Nat.le_of_ble_eq_true rfl⟩ ?_
        refine r_aload_n C dX11_tray_66 rfl ?_
        obtain ⟨u34, e33, hf0⟩ := ob hf0
        obtain ⟨t35, h36, e37, hf0⟩ := ob2 hf0
        refine r_cV (ci := 11) (rest := []) (st2 := [.int t35]) C (s_X11_grant e37) mk_X11_grant rfl (ck_k e33) (by decide) im_X11_grant sl_X11_grant lk_X11_130 rfl rfl rfl dX11_tray_67 (Nat.le_of_ble_eq_true rfl) ⟨Nat.le_of_ble_eq_true rfl, Nat.le_of_ble_eq_true rfl⟩ ⟨Nat.le_of_ble_eq_true rfl, Nat.le_of_ble_eq_true rfl⟩ ?_
        obtain ⟨t38, e39, hf0⟩ := ob hf0
        obtain ⟨rfl, e39z⟩ := rZ_k e39
        obtain rfl := so hf0
        exact r_zret C dX11_tray_70 e39z
      · rw [if_pos c18] at hf0
        refine r_subk [0] (lv' := [(0, .ref v0)]) rfl ?_
        exact J25 h v0 hf0
def f_X11_whyNoPlace (h : aH) (v0 : Nat) (v1 : Int32) (v2 : Int32) : Option (Int32) := (f_X11_below h v1 (4 : Int32)).bind fun t1 => if t1 = 0 then some (1 : Int32) else (gR h 11 v0 0).bind fun t2 => (lI h t2 v1).bind fun t3 => if t3 = (-1 : Int32) then some (2 : Int32) else (gR h 11 v0 1).bind fun t4 => (lI h t4 v1).bind fun t5 => (f_X11_below h v2 t5).bind fun t6 => if t6 = 0 then some (3 : Int32) else some (0 : Int32)
theorem s_X11_whyNoPlace {h : aH} {v0 : Nat} {v1 : Int32} {v2 : Int32} {out : Int32} (hf0 : f_X11_whyNoPlace h v0 v1 v2 = some out) : EV 1 yX11_whyNoPlace cX11_whyNoPlace 3 (some .int) h [.ref v0, .int v1, .int v2] (some (.int out)) h 0 0 := by
  refine EV.of (own := RX11) (lv0 := [(0, .ref v0), (1, .int v1), (2, .int v2)]) (by decide +kernel) rfl rfl (Nat.le_of_ble_eq_true rfl) ?_
  intro p l e s m args below meth c D cA B Hb C hin
  unfold f_X11_whyNoPlace at hf0
  refine r_iload_n C dX11_whyNoPlace_0 rfl ?_
  refine r_iconst (v := 4) C dX11_whyNoPlace_1 (by decide) ?_
  obtain ⟨t1, e2, hf0⟩ := ob hf0
  refine r_cS (rest := []) (st2 := [.int t1]) C (s_X11_below e2) mk_X11_below sm_X11_below lk_X11_119 rfl rfl rfl dX11_whyNoPlace_2 (Nat.le_of_ble_eq_true rfl) ⟨Nat.le_of_ble_eq_true rfl, Nat.le_of_ble_eq_true rfl⟩ ⟨Nat.le_of_ble_eq_true rfl, Nat.le_of_ble_eq_true rfl⟩ ?_
  refine r_ifne (tgt := 10) C dX11_whyNoPlace_5 (by decide) (fun c3 => ?_) (fun c3 => ?_)
  · rw [if_neg c3] at hf0
    refine r_aload_n C dX11_whyNoPlace_10 rfl ?_
    obtain ⟨t4, e5, hf0⟩ := ob hf0
    refine r_getR C fk_X11_9 rfl dX11_whyNoPlace_11 e5 ?_
    refine r_iload_n C dX11_whyNoPlace_14 rfl ?_
    obtain ⟨t6, e7, hf0⟩ := ob hf0
    refine r_ldI C dX11_whyNoPlace_15 e7 ?_
    refine r_iconst (v := -1) C dX11_whyNoPlace_16 (by decide) ?_
    refine r_icmp_ne (tgt := 22) C dX11_whyNoPlace_17 (by decide) (fun c8 => ?_) (fun c8 => ?_)
    · rw [if_neg c8] at hf0
      refine r_iload_n C dX11_whyNoPlace_22 rfl ?_
      refine r_aload_n C dX11_whyNoPlace_23 rfl ?_
      obtain ⟨t9, e10, hf0⟩ := ob hf0
      refine r_getR C fk_X11_13 rfl dX11_whyNoPlace_24 e10 ?_
      refine r_iload_n C dX11_whyNoPlace_27 rfl ?_
      obtain ⟨t11, e12, hf0⟩ := ob hf0
      refine r_ldI C dX11_whyNoPlace_28 e12 ?_
      obtain ⟨t13, e14, hf0⟩ := ob hf0
      refine r_cS (rest := []) (st2 := [.int t13]) C (s_X11_below e14) mk_X11_below sm_X11_below lk_X11_119 rfl rfl rfl dX11_whyNoPlace_29 (Nat.le_of_ble_eq_true rfl) ⟨Nat.le_of_ble_eq_true rfl, Nat.le_of_ble_eq_true rfl⟩ ⟨Nat.le_of_ble_eq_true rfl, Nat.le_of_ble_eq_true rfl⟩ ?_
      refine r_ifeq (tgt := 39) C dX11_whyNoPlace_32 (by decide) (fun c15 => ?_) (fun c15 => ?_)
      · rw [if_pos c15] at hf0
        refine r_iconst (v := 3) C dX11_whyNoPlace_39 (by decide) ?_
        obtain rfl := so hf0
        exact r_iret C dX11_whyNoPlace_40
      · rw [if_neg c15] at hf0
        refine r_iconst (v := 0) C dX11_whyNoPlace_35 (by decide) ?_
        refine r_goto (tgt := 40) C dX11_whyNoPlace_36 (by decide) ?_
        obtain rfl := so hf0
        exact r_iret C dX11_whyNoPlace_40
    · rw [if_pos c8] at hf0
      refine r_iconst (v := 2) C dX11_whyNoPlace_20 (by decide) ?_
      obtain rfl := so hf0
      exact r_iret C dX11_whyNoPlace_21
  · rw [if_pos c3] at hf0
    refine r_iconst (v := 1) C dX11_whyNoPlace_8 (by decide) ?_
    obtain rfl := so hf0
    exact r_iret C dX11_whyNoPlace_9
def f_X11_cut (h : aH) (v0 : Int64) (v2 : Int32) : Option (Int64) := if v2 = (0 : Int32) then some (Int32.toInt64 ((Int32.toInt8 (Int64.toInt32 v0)).toInt32)) else if v2 = (1 : Int32) then some (Int32.toInt64 ((Int32.toInt16 (Int64.toInt32 v0)).toInt32)) else if v2 = (2 : Int32) then some (Int32.toInt64 (Int64.toInt32 v0)) else some v0
theorem s_X11_cut {h : aH} {v0 : Int64} {v2 : Int32} {out : Int64} (hf0 : f_X11_cut h v0 v2 = some out) : EV 0 yX11_cut cX11_cut 3 (some .long) h [.long v0, .int v2] (some (.long out)) h 0 0 := by
  refine EV.of (own := RX11) (lv0 := [(0, .long v0), (2, .int v2)]) (by decide +kernel) rfl rfl (Nat.le_of_ble_eq_true rfl) ?_
  intro p l e s m args below meth c D cA B Hb C hin
  unfold f_X11_cut at hf0
  refine r_iload_n C dX11_cut_0 rfl ?_
  by_cases c1 : v2 = (0 : Int32)
  · rw [if_pos c1] at hf0
    refine r_tabIn (k := 0) (off := 27) (tgt := 28) C dX11_cut_1 c1 (by decide) (by decide) (by decide) (by decide) ?_
    refine r_lload_n C dX11_cut_28 rfl ?_
    refine r_l2i C dX11_cut_29 ?_
    refine r_i2b C dX11_cut_30 ?_
    refine r_i2l C dX11_cut_31 ?_
    obtain rfl := so hf0
    exact r_lret C dX11_cut_32
  · rw [if_neg c1] at hf0
    by_cases c2 : v2 = (1 : Int32)
    · rw [if_pos c2] at hf0
      refine r_tabIn (k := 1) (off := 32) (tgt := 33) C dX11_cut_1 c2 (by decide) (by decide) (by decide) (by decide) ?_
      refine r_lload_n C dX11_cut_33 rfl ?_
      refine r_l2i C dX11_cut_34 ?_
      refine r_i2s C dX11_cut_35 ?_
      refine r_i2l C dX11_cut_36 ?_
      obtain rfl := so hf0
      exact r_lret C dX11_cut_37
    · rw [if_neg c2] at hf0
      by_cases c3 : v2 = (2 : Int32)
      · rw [if_pos c3] at hf0
        refine r_tabIn (k := 2) (off := 37) (tgt := 38) C dX11_cut_1 c3 (by decide) (by decide) (by decide) (by decide) ?_
        refine r_lload_n C dX11_cut_38 rfl ?_
        refine r_l2i C dX11_cut_39 ?_
        refine r_i2l C dX11_cut_40 ?_
        obtain rfl := so hf0
        exact r_lret C dX11_cut_41
      · rw [if_neg c3] at hf0
        refine r_tabOut (tgt := 42) C dX11_cut_1 (tsw (fun j j1 j2 => ?_)) (by decide) ?_
        · rcases (show j = 0 ∨ j = 1 ∨ j = 2 by omega) with rfl | rfl | rfl
          · exact tsw_ne c1
          · exact tsw_ne c2
          · exact tsw_ne c3
        · refine r_lload_n C dX11_cut_42 rfl ?_
          obtain rfl := so hf0
          exact r_lret C dX11_cut_43
def f_X11_write (h : aH) (v0 : Nat) (v1 : Int32) (v2 : Int32) (v3 : Int64) : Option (Int32 × aH) := (ck h 11 v0).bind fun _ => (f_X11_whyNoPlace h v0 v1 v2).bind fun t1 => if t1 = 0 then (gR h 11 v0 2).bind fun t2 => (gR h 11 v0 0).bind fun t3 => (lI h t3 v1).bind fun t4 => (f_X11_cut h v3 t4).bind fun t5 => (sJ h t2 ((v1 * (60 : Int32)) + v2) t5).bind fun h6 => (ck h6 11 v0).bind fun _ => bd2 (f_X11_grant h6 v0) fun t7 h8 => (rZ t7).bind fun t9 => some (t9, h8) else (ck h 11 v0).bind fun _ => bd2 (f_X11_deny h v0 t1) fun t10 h11 => (rZ t10).bind fun t12 => some (t12, h11)
theorem s_X11_write {h : aH} {v0 : Nat} {v1 : Int32} {v2 : Int32} {v3 : Int64} {out : Int32 × aH} (hf0 : f_X11_write h v0 v1 v2 v3 = some out) : EV 2 yX11_write cX11_write 6 (some .boolean) h [.ref v0, .int v1, .int v2, .long v3] (some (.int out.1)) out.2 0 0 := by
  refine EV.of (own := RX11) (lv0 := [(0, .ref v0), (1, .int v1), (2, .int v2), (3, .long v3)]) (by decide +kernel) rfl rfl (Nat.le_of_ble_eq_true rfl) ?_
  intro p l e s m args below meth c D cA B Hb C hin
  unfold f_X11_write at hf0
  refine r_aload_n C dX11_write_0 rfl ?_
  refine r_iload_n C dX11_write_1 rfl ?_
  refine r_iload_n C dX11_write_2 rfl ?_
  obtain ⟨u2, e1, hf0⟩ := ob hf0
  obtain ⟨t3, e4, hf0⟩ := ob hf0
  refine r_cV (ci := 11) (rest := []) (st2 := [.int t3]) C (s_X11_whyNoPlace e4) mk_X11_whyNoPlace rfl (ck_k e1) (by decide) im_X11_whyNoPlace sl_X11_whyNoPlace lk_X11_134 rfl rfl rfl dX11_write_3 (Nat.le_of_ble_eq_true rfl) ⟨Nat.le_of_ble_eq_true rfl, Nat.le_of_ble_eq_true rfl⟩ ⟨Nat.le_of_ble_eq_true rfl, Nat.le_of_ble_eq_true rfl⟩ ?_
  refine r_istore (lv' := [(5, .int t3), (0, .ref v0), (1, .int v1), (2, .int v2), (3, .long v3)]) C dX11_write_6 (by decide) rfl rfl ?_
  refine r_iload C dX11_write_8 rfl ?_
  refine r_ifeq (tgt := 20) C dX11_write_10 (by decide) (fun c5 => ?_) (fun c5 => ?_)
  · rw [if_pos c5] at hf0
    refine r_aload_n C dX11_write_20 rfl ?_
    obtain ⟨t6, e7, hf0⟩ := ob hf0
    refine r_getR C fk_X11_16 rfl dX11_write_21 e7 ?_
    refine r_iload_n C dX11_write_24 rfl ?_
    refine r_bipush (v := 60) C dX11_write_25 (by decide) ?_
    refine r_imul C dX11_write_27 ?_
    refine r_iload_n C dX11_write_28 rfl ?_
    refine r_iadd C dX11_write_29 ?_
    refine r_lload_n C dX11_write_30 rfl ?_
    refine r_aload_n C dX11_write_31 rfl ?_
    obtain ⟨t8, e9, hf0⟩ := ob hf0
    refine r_getR C fk_X11_9 rfl dX11_write_32 e9 ?_
    refine r_iload_n C dX11_write_35 rfl ?_
    obtain ⟨t10, e11, hf0⟩ := ob hf0
    refine r_ldI C dX11_write_36 e11 ?_
    obtain ⟨t12, e13, hf0⟩ := ob hf0
    refine r_cS (rest := [.int ((v1 * (60 : Int32)) + v2), .ref t6]) (st2 := [.long t12, .int ((v1 * (60 : Int32)) + v2), .ref t6]) C (s_X11_cut e13) mk_X11_cut sm_X11_cut lk_X11_138 rfl rfl rfl dX11_write_37 (Nat.le_of_ble_eq_true rfl) ⟨Nat.le_of_ble_eq_true rfl, Nat.le_of_ble_eq_true rfl⟩ ⟨Nat.le_of_ble_eq_true rfl, Nat.le_of_ble_eq_true rfl⟩ ?_
    obtain ⟨h14, e15, hf0⟩ := ob hf0
    refine r_stJ C dX11_write_40 e15 ?_
    refine r_aload_n C dX11_write_41 rfl ?_
    obtain ⟨u17, e16, hf0⟩ := ob hf0
    obtain ⟨t18, h19, e20, hf0⟩ := ob2 hf0
    refine r_cV (ci := 11) (rest := []) (st2 := [.int t18]) C (s_X11_grant e20) mk_X11_grant rfl (ck_k e16) (by decide) im_X11_grant sl_X11_grant lk_X11_130 rfl rfl rfl dX11_write_42 (Nat.le_of_ble_eq_true rfl) ⟨Nat.le_of_ble_eq_true rfl, Nat.le_of_ble_eq_true rfl⟩ ⟨Nat.le_of_ble_eq_true rfl, Nat.le_of_ble_eq_true rfl⟩ ?_
    obtain ⟨t21, e22, hf0⟩ := ob hf0
    obtain ⟨rfl, e22z⟩ := rZ_k e22
    obtain rfl := so hf0
    exact r_zret C dX11_write_45 e22z
  · rw [if_neg c5] at hf0
    refine r_aload_n C dX11_write_13 rfl ?_
    refine r_iload C dX11_write_14 rfl ?_
    obtain ⟨u24, e23, hf0⟩ := ob hf0
    obtain ⟨t25, h26, e27, hf0⟩ := ob2 hf0
    refine r_cV (ci := 11) (rest := []) (st2 := [.int t25]) C (s_X11_deny e27) mk_X11_deny rfl (ck_k e23) (by decide) im_X11_deny sl_X11_deny lk_X11_123 rfl rfl rfl dX11_write_16 (Nat.le_of_ble_eq_true rfl) ⟨Nat.le_of_ble_eq_true rfl, Nat.le_of_ble_eq_true rfl⟩ ⟨Nat.le_of_ble_eq_true rfl, Nat.le_of_ble_eq_true rfl⟩ ?_
    obtain ⟨t28, e29, hf0⟩ := ob hf0
    obtain ⟨rfl, e29z⟩ := rZ_k e29
    obtain rfl := so hf0
    exact r_zret C dX11_write_19 e29z
