def f_X0_init (h : aH) (v0 : Nat) : Option (aH) := bd2 (nwO h 20 256) fun t1 h2 => (pR h2 0 v0 0 t1).bind fun h3 => bd2 (nwO h3 20 256) fun t4 h5 => (pR h5 0 v0 1 t4).bind fun h6 => bd2 (nwO h6 20 12) fun t7 h8 => (pR h8 0 v0 2 t7).bind fun h9 => bd2 (nwO h9 20 12) fun t10 h11 => (pR h11 0 v0 3 t10).bind fun h12 => (pI h12 0 v0 4 (0 : Int32)).bind fun h13 => some h13
theorem s_X0_init {h : aH} {v0 : Nat} {out : aH} (hf0 : f_X0_init h v0 = some out) : EV 1 yX0_init cX0_init 1 none h [.ref v0] none out 4 536 := by
  refine EV.of (own := RX0) (lv0 := [(0, .ref v0)]) (by decide +kernel) rfl rfl (Nat.le_of_ble_eq_true rfl) ?_
  intro p l e s m args below meth c D cA B Hb C hin
  unfold f_X0_init at hf0
  refine r_aload_n C dX0_init_0 rfl ?_
  refine r_obj C lk_X0_3 dX0_init_1 ⟨Nat.le_of_ble_eq_true rfl, Nat.le_of_ble_eq_true rfl⟩ (Nat.le_of_ble_eq_true rfl) ?_
  refine r_aload_n C dX0_init_4 rfl ?_
  refine r_sipush (v := 256) C dX0_init_5 (by decide) ?_
  obtain ⟨t1, h2, e3, hf0⟩ := ob2 hf0
  refine r_newIE C dX0_init_8 (by decide) (by decide) (by decide) ⟨Nat.le_of_ble_eq_true rfl, Nat.le_of_ble_eq_true rfl⟩ e3 ?_
  obtain ⟨h4, e5, hf0⟩ := ob hf0
  refine r_putFR C fk_X0_9 ⟨_, _, rfl⟩ (Or.inr ⟨_, rfl⟩) hin dX0_init_10 e5 ?_
  refine r_aload_n C dX0_init_13 rfl ?_
  refine r_sipush (v := 256) C dX0_init_14 (by decide) ?_
  obtain ⟨t6, h7, e8, hf0⟩ := ob2 hf0
  refine r_newIE C dX0_init_17 (by decide) (by decide) (by decide) ⟨Nat.le_of_ble_eq_true rfl, Nat.le_of_ble_eq_true rfl⟩ e8 ?_
  obtain ⟨h9, e10, hf0⟩ := ob hf0
  refine r_putFR C fk_X0_15 ⟨_, _, rfl⟩ (Or.inr ⟨_, rfl⟩) hin dX0_init_19 e10 ?_
  refine r_aload_n C dX0_init_22 rfl ?_
  refine r_bipush (v := 12) C dX0_init_23 (by decide) ?_
  obtain ⟨t11, h12, e13, hf0⟩ := ob2 hf0
  refine r_newIE C dX0_init_25 (by decide) (by decide) (by decide) ⟨Nat.le_of_ble_eq_true rfl, Nat.le_of_ble_eq_true rfl⟩ e13 ?_
  obtain ⟨h14, e15, hf0⟩ := ob hf0
  refine r_putFR C fk_X0_18 ⟨_, _, rfl⟩ (Or.inr ⟨_, rfl⟩) hin dX0_init_27 e15 ?_
  refine r_aload_n C dX0_init_30 rfl ?_
  refine r_bipush (v := 12) C dX0_init_31 (by decide) ?_
  obtain ⟨t16, h17, e18, hf0⟩ := ob2 hf0
  refine r_newIE C dX0_init_33 (by decide) (by decide) (by decide) ⟨Nat.le_of_ble_eq_true rfl, Nat.le_of_ble_eq_true rfl⟩ e18 ?_
  obtain ⟨h19, e20, hf0⟩ := ob hf0
  refine r_putFR C fk_X0_21 ⟨_, _, rfl⟩ (Or.inr ⟨_, rfl⟩) hin dX0_init_35 e20 ?_
  refine r_aload_n C dX0_init_38 rfl ?_
  refine r_iconst (v := 0) C dX0_init_39 (by decide) ?_
  obtain ⟨h21, e22, hf0⟩ := ob hf0
  refine r_putI C fk_X0_24 dX0_init_40 e22 ?_
  obtain rfl := so hf0
  exact r_vret C dX0_init_43
def f_J7_fill_53178_b5 (v0 : Nat) (v1 : Int32) (v3 : Int32) (v2 : Int32) (h : aH) : Option ((Int32 × aH) ⊕ (aH)) := if v3 ≤ v2 then some (.inr h) else (sI h v0 v2 v1).bind fun h2 => (some (v2 + (1 : Int32))).bind fun t3 => some (.inl (t3, h2))
def f_J7_fill_53178_l5 (v0 : Nat) (v1 : Int32) (v3 : Int32) (v2 : Int32) (h : aH) : Option (aH) := whileL wN (fun q : Int32 × aH => f_J7_fill_53178_b5 v0 v1 v3 q.1 q.2) (v2, h)
def f_J7_fill_53178 (h : aH) (v0 : Nat) (v1 : Int32) : Option (aH) := (aN h v0).bind fun t1 => (f_J7_fill_53178_l5 v0 v1 t1 (0 : Int32) h).bind fun h4 => some h4
theorem s_J7_fill_53178 {h : aH} {v0 : Nat} {v1 : Int32} {out : aH} (hf0 : f_J7_fill_53178 h v0 v1 = some out) : EV 0 yJ7_fill_53178 cJ7_fill_53178 4 none h [.ref v0, .int v1] none out 0 0 := by
  refine EV.of (own := RJ7) (lv0 := [(0, .ref v0), (1, .int v1)]) (by decide +kernel) rfl rfl (Nat.le_of_ble_eq_true rfl) ?_
  intro p l e s m args below meth c D cA B Hb C hin
  unfold f_J7_fill_53178 at hf0
  refine r_iconst (v := 0) C dJ7_fill_53178_0 (by decide) ?_
  refine r_istore_n (lv' := [(2, .int (0 : Int32)), (0, .ref v0), (1, .int v1)]) C dJ7_fill_53178_1 (by decide) rfl rfl ?_
  refine r_aload_n C dJ7_fill_53178_2 rfl ?_
  obtain ⟨t1, e2, hf0⟩ := ob hf0
  refine r_alen C dJ7_fill_53178_3 e2 ?_
  refine r_istore_n (lv' := [(3, .int t1), (2, .int (0 : Int32)), (0, .ref v0), (1, .int v1)]) C dJ7_fill_53178_4 (by decide) rfl rfl ?_
  obtain ⟨y3, hl5, hf0⟩ := ob hf0
  have L5 : ∀ (n : Nat) (t4 : Int32) (h5 : aH), whileL n (fun q : Int32 × aH => f_J7_fill_53178_b5 v0 v1 t1 q.1 q.2) (t4, h5) = some y3 → gW p l e (rmO 0 0 0) s m args below meth c (MQ below (eQ D cA B Hb out none) args s 0 0 (fun q => B ≤ q)) D cA B Hb 4 h5 5 [(0, .ref v0), (1, .int v1), (2, .int t4), (3, .int t1)] [] 0 0 := by
    intro n
    induction n with
    | zero => intro t4 h5 hz; cases hz
    | succ n ih5 =>
      intro t4 h5 hz
      obtain ⟨x5, hf1, hk5⟩ := wl hz
      replace hf1 : f_J7_fill_53178_b5 v0 v1 t1 t4 h5 = some x5 := hf1
      unfold f_J7_fill_53178_b5 at hf1
      refine r_iload_n C dJ7_fill_53178_5 rfl ?_
      refine r_iload_n C dJ7_fill_53178_6 rfl ?_
      refine r_icmp_ge (tgt := 20) C dJ7_fill_53178_7 (by decide) (fun c6 => ?_) (fun c6 => ?_)
      · rw [if_pos c6] at hf1
        obtain rfl := so hf1
        obtain rfl := so (show some h5 = some y3 from hk5)
        obtain rfl := so hf0
        exact r_vret C dJ7_fill_53178_20
      · rw [if_neg c6] at hf1
        refine r_aload_n C dJ7_fill_53178_10 rfl ?_
        refine r_iload_n C dJ7_fill_53178_11 rfl ?_
        refine r_iload_n C dJ7_fill_53178_12 rfl ?_
        obtain ⟨h7, e8, hf1⟩ := ob hf1
        refine r_stI C dJ7_fill_53178_13 e8 ?_
        obtain ⟨t9, e10, hf1⟩ := ob hf1
        refine r_iinc (lv' := [(2, .int t9), (0, .ref v0), (1, .int v1), (3, .int t1)]) C dJ7_fill_53178_14 rfl e10 (by decide) rfl ?_
        refine r_goto (tgt := 5) C dJ7_fill_53178_17 (by decide) ?_
        obtain rfl := so hf1
        refine r_subk [1, 2, 0, 3] (lv' := [(0, .ref v0), (1, .int v1), (2, .int t9), (3, .int t1)]) rfl ?_
        exact ih5 t9 h7 hk5
  refine r_subk [2, 3, 1, 0] (lv' := [(0, .ref v0), (1, .int v1), (2, .int (0 : Int32)), (3, .int t1)]) rfl ?_
  exact L5 wN (0 : Int32) h hl5
def f_X1_canBe (h : aH) (v0 : Nat) (v1 : Int32) : Option (Int32) := (gR h 1 v0 5).bind fun t1 => (lI h t1 v1).bind fun t2 => if t2 ≤ 0 then some (0 : Int32) else some (1 : Int32)
theorem s_X1_canBe {h : aH} {v0 : Nat} {v1 : Int32} {out : Int32} (hf0 : f_X1_canBe h v0 v1 = some out) : EV 0 yX1_canBe cX1_canBe 2 (some .boolean) h [.ref v0, .int v1] (some (.int out)) h 0 0 := by
  refine EV.of (own := RX1) (lv0 := [(0, .ref v0), (1, .int v1)]) (by decide +kernel) rfl rfl (Nat.le_of_ble_eq_true rfl) ?_
  intro p l e s m args below meth c D cA B Hb C hin
  unfold f_X1_canBe at hf0
  refine r_aload_n C dX1_canBe_0 rfl ?_
  obtain ⟨t1, e2, hf0⟩ := ob hf0
  refine r_getR C fk_X1_31 rfl dX1_canBe_1 e2 ?_
  refine r_iload_n C dX1_canBe_4 rfl ?_
  obtain ⟨t3, e4, hf0⟩ := ob hf0
  refine r_ldI C dX1_canBe_5 e4 ?_
  refine r_ifle (tgt := 13) C dX1_canBe_6 (by decide) (fun c5 => ?_) (fun c5 => ?_)
  · rw [if_pos c5] at hf0
    refine r_iconst (v := 0) C dX1_canBe_13 (by decide) ?_
    obtain rfl := so hf0
    exact r_zret C dX1_canBe_14 (Or.inl rfl)
  · rw [if_neg c5] at hf0
    refine r_iconst (v := 1) C dX1_canBe_9 (by decide) ?_
    refine r_goto (tgt := 14) C dX1_canBe_10 (by decide) ?_
    obtain rfl := so hf0
    exact r_zret C dX1_canBe_14 (Or.inr rfl)
def f_X0_sayingsOf_b4 (h : aH) (v0 : Int32) (v1 : Int32) (v2 : Int32) (v3 : Int32) : Option ((Int32 × Int32) ⊕ (Int32)) := if (12 : Int32) ≤ v3 then some (.inr v2) else (some (v2 ||| ((((v0 >>> (v3 &&& 31)) &&& (1 : Int32)) <<< (((2 : Int32) * v3) &&& 31)) ||| (((v1 >>> (v3 &&& 31)) &&& (1 : Int32)) <<< ((((2 : Int32) * v3) + (1 : Int32)) &&& 31))))).bind fun t1 => (some (v3 + (1 : Int32))).bind fun t2 => some (.inl (t1, t2))
def f_X0_sayingsOf_l4 (h : aH) (v0 : Int32) (v1 : Int32) (v2 : Int32) (v3 : Int32) : Option (Int32) := whileL wN (fun q : Int32 × Int32 => f_X0_sayingsOf_b4 h v0 v1 q.1 q.2) (v2, v3)
def f_X0_sayingsOf (h : aH) (v0 : Int32) (v1 : Int32) : Option (Int32) := (f_X0_sayingsOf_l4 h v0 v1 (0 : Int32) (0 : Int32)).bind fun t3 => some t3
theorem s_X0_sayingsOf {h : aH} {v0 : Int32} {v1 : Int32} {out : Int32} (hf0 : f_X0_sayingsOf h v0 v1 = some out) : EV 0 yX0_sayingsOf cX0_sayingsOf 4 (some .int) h [.int v0, .int v1] (some (.int out)) h 0 0 := by
  refine EV.of (own := RX0) (lv0 := [(0, .int v0), (1, .int v1)]) (by decide +kernel) rfl rfl (Nat.le_of_ble_eq_true rfl) ?_
  intro p l e s m args below meth c D cA B Hb C hin
  unfold f_X0_sayingsOf at hf0
  refine r_iconst (v := 0) C dX0_sayingsOf_0 (by decide) ?_
  refine r_istore_n (lv' := [(2, .int (0 : Int32)), (0, .int v0), (1, .int v1)]) C dX0_sayingsOf_1 (by decide) rfl rfl ?_
  refine r_iconst (v := 0) C dX0_sayingsOf_2 (by decide) ?_
  refine r_istore_n (lv' := [(3, .int (0 : Int32)), (2, .int (0 : Int32)), (0, .int v0), (1, .int v1)]) C dX0_sayingsOf_3 (by decide) rfl rfl ?_
  obtain ⟨y1, hl4, hf0⟩ := ob hf0
  have L4 : ∀ (n : Nat) (t2 : Int32) (t3 : Int32), whileL n (fun q : Int32 × Int32 => f_X0_sayingsOf_b4 h v0 v1 q.1 q.2) (t2, t3) = some y1 → gW p l e (rmO 0 0 0) s m args below meth c (MQ below (eQ D cA B Hb h (some (.int out))) args s 0 0 (fun q => B ≤ q)) D cA B Hb 4 h 4 [(0, .int v0), (1, .int v1), (2, .int t2), (3, .int t3)] [] 0 0 := by
    intro n
    induction n with
    | zero => intro t2 t3 hz; cases hz
    | succ n ih4 =>
      intro t2 t3 hz
      obtain ⟨x4, hf1, hk4⟩ := wl hz
      replace hf1 : f_X0_sayingsOf_b4 h v0 v1 t2 t3 = some x4 := hf1
      unfold f_X0_sayingsOf_b4 at hf1
      refine r_iload_n C dX0_sayingsOf_4 rfl ?_
      refine r_bipush (v := 12) C dX0_sayingsOf_5 (by decide) ?_
      refine r_icmp_ge (tgt := 40) C dX0_sayingsOf_7 (by decide) (fun c4 => ?_) (fun c4 => ?_)
      · rw [if_pos c4] at hf1
        obtain rfl := so hf1
        obtain rfl := so (show some t2 = some y1 from hk4)
        refine r_iload_n C dX0_sayingsOf_40 rfl ?_
        obtain rfl := so hf0
        exact r_iret C dX0_sayingsOf_41
      · rw [if_neg c4] at hf1
        refine r_iload_n C dX0_sayingsOf_10 rfl ?_
        refine r_iload_n C dX0_sayingsOf_11 rfl ?_
        refine r_iload_n C dX0_sayingsOf_12 rfl ?_
        refine r_ishr C dX0_sayingsOf_13 ?_
        refine r_iconst (v := 1) C dX0_sayingsOf_14 (by decide) ?_
        refine r_iand C dX0_sayingsOf_15 ?_
        refine r_iconst (v := 2) C dX0_sayingsOf_16 (by decide) ?_
        refine r_iload_n C dX0_sayingsOf_17 rfl ?_
        refine r_imul C dX0_sayingsOf_18 ?_
        refine r_ishl C dX0_sayingsOf_19 ?_
        refine r_iload_n C dX0_sayingsOf_20 rfl ?_
        refine r_iload_n C dX0_sayingsOf_21 rfl ?_
        refine r_ishr C dX0_sayingsOf_22 ?_
        refine r_iconst (v := 1) C dX0_sayingsOf_23 (by decide) ?_
        refine r_iand C dX0_sayingsOf_24 ?_
        refine r_iconst (v := 2) C dX0_sayingsOf_25 (by decide) ?_
        refine r_iload_n C dX0_sayingsOf_26 rfl ?_
        refine r_imul C dX0_sayingsOf_27 ?_
        refine r_iconst (v := 1) C dX0_sayingsOf_28 (by decide) ?_
        refine r_iadd C dX0_sayingsOf_29 ?_
        refine r_ishl C dX0_sayingsOf_30 ?_
        refine r_ior C dX0_sayingsOf_31 ?_
        refine r_ior C dX0_sayingsOf_32 ?_
        obtain ⟨t5, e6, hf1⟩ := ob hf1
        refine r_istore_n (lv' := [(2, .int t5), (0, .int v0), (1, .int v1), (3, .int t3)]) C dX0_sayingsOf_33 (by decide) e6 rfl ?_
        obtain ⟨t7, e8, hf1⟩ := ob hf1
        refine r_iinc (lv' := [(3, .int t7), (2, .int t5), (0, .int v0), (1, .int v1)]) C dX0_sayingsOf_34 rfl e8 (by decide) rfl ?_
        refine r_goto (tgt := 4) C dX0_sayingsOf_37 (by decide) ?_
        obtain rfl := so hf1
        refine r_subk [2, 3, 1, 0] (lv' := [(0, .int v0), (1, .int v1), (2, .int t5), (3, .int t7)]) rfl ?_
        exact ih4 t5 t7 hk4
  refine r_subk [2, 3, 1, 0] (lv' := [(0, .int v0), (1, .int v1), (2, .int (0 : Int32)), (3, .int (0 : Int32))]) rfl ?_
  exact L4 wN (0 : Int32) (0 : Int32) hl4
def f_X1_inQuestion (h : aH) (v0 : Nat) (v1 : Int32) (v2 : Int32) : Option (Int32) := (gR h 1 v0 6).bind fun t1 => (lI h t1 v2).bind fun t2 => some ((t2 >>> (v1 &&& 31)) &&& (1 : Int32))
theorem s_X1_inQuestion {h : aH} {v0 : Nat} {v1 : Int32} {v2 : Int32} {out : Int32} (hf0 : f_X1_inQuestion h v0 v1 v2 = some out) : EV 0 yX1_inQuestion cX1_inQuestion 3 (some .int) h [.ref v0, .int v1, .int v2] (some (.int out)) h 0 0 := by
  refine EV.of (own := RX1) (lv0 := [(0, .ref v0), (1, .int v1), (2, .int v2)]) (by decide +kernel) rfl rfl (Nat.le_of_ble_eq_true rfl) ?_
  intro p l e s m args below meth c D cA B Hb C hin
  unfold f_X1_inQuestion at hf0
  refine r_aload_n C dX1_inQuestion_0 rfl ?_
  obtain ⟨t1, e2, hf0⟩ := ob hf0
  refine r_getR C fk_X1_34 rfl dX1_inQuestion_1 e2 ?_
  refine r_iload_n C dX1_inQuestion_4 rfl ?_
  obtain ⟨t3, e4, hf0⟩ := ob hf0
  refine r_ldI C dX1_inQuestion_5 e4 ?_
  refine r_iload_n C dX1_inQuestion_6 rfl ?_
  refine r_ishr C dX1_inQuestion_7 ?_
  refine r_iconst (v := 1) C dX1_inQuestion_8 (by decide) ?_
  refine r_iand C dX1_inQuestion_9 ?_
  obtain rfl := so hf0
  exact r_iret C dX1_inQuestion_10
def f_X0_relateSayings_j126 (h : aH) (v0 : Nat) (v1 : Nat) (v2 : Int32) : Option ((Int32 × aH) ⊕ (aH)) := (some (v2 + (1 : Int32))).bind fun t6 => some (.inl (t6, h))
def f_X0_relateSayings_j120 (h : aH) (v0 : Nat) (v1 : Nat) (v2 : Int32) (v3 : Int32) (v4 : Int32) : Option ((Int32 × aH) ⊕ (aH)) := (some (v4 + (1 : Int32))).bind fun t16 => some (.inl (t16, h))
def f_X0_relateSayings_b75 (v0 : Nat) (v1 : Nat) (v2 : Int32) (v3 : Int32) (v4 : Int32) (h : aH) : Option ((Int32 × aH) ⊕ (aH)) := (gI h 1 v1 16).bind fun t17 => if t17 ≤ v4 then some (.inr h) else (ck h 1 v1).bind fun _ => (f_X1_inQuestion h v1 v4 v2).bind fun t18 => if t18 = (1 : Int32) then (gR h 0 v0 2).bind fun t22 => (lI h t22 v4).bind fun t23 => (sI h t22 v4 (t23 ||| v3)).bind fun h24 => f_X0_relateSayings_j120 h24 v0 v1 v2 v3 v4 else (gR h 0 v0 3).bind fun t19 => (lI h t19 v4).bind fun t20 => (sI h t19 v4 (t20 ||| v3)).bind fun h21 => f_X0_relateSayings_j120 h21 v0 v1 v2 v3 v4
def f_X0_relateSayings_l75 (v0 : Nat) (v1 : Nat) (v2 : Int32) (v3 : Int32) (v4 : Int32) (h : aH) : Option (aH) := whileL wN (fun q : Int32 × aH => f_X0_relateSayings_b75 v0 v1 v2 v3 q.1 q.2) (v4, h)
def f_X0_relateSayings_b23 (v0 : Nat) (v1 : Nat) (v2 : Int32) (h : aH) : Option ((Int32 × aH) ⊕ (aH)) := (gI h 1 v1 14).bind fun t7 => if t7 ≤ v2 then some (.inr h) else (ck h 1 v1).bind fun _ => (f_X1_canBe h v1 v2).bind fun t8 => if t8 = 0 then f_X0_relateSayings_j126 h v0 v1 v2 else (gR h 1 v1 6).bind fun t9 => (lI h t9 v2).bind fun t10 => (gR h 1 v1 6).bind fun t11 => (lI h t11 v2).bind fun t12 => (f_X0_sayingsOf h t10 (t12 ^^^ (-1 : Int32))).bind fun t13 => (gI h 0 v0 4).bind fun t14 => (pI h 0 v0 4 (t14 ||| (t13 ^^^ (-1 : Int32)))).bind fun h15 => (f_X0_relateSayings_l75 v0 v1 v2 t13 (0 : Int32) h15).bind fun h25 => f_X0_relateSayings_j126 h25 v0 v1 v2
def f_X0_relateSayings_l23 (v0 : Nat) (v1 : Nat) (v2 : Int32) (h : aH) : Option (aH) := whileL wN (fun q : Int32 × aH => f_X0_relateSayings_b23 v0 v1 q.1 q.2) (v2, h)
def f_X0_relateSayings (h : aH) (v0 : Nat) (v1 : Nat) : Option (aH) := (pI h 0 v0 4 (0 : Int32)).bind fun h1 => (gR h1 0 v0 2).bind fun t2 => (f_J7_fill_53178 h1 t2 (0 : Int32)).bind fun h3 => (gR h3 0 v0 3).bind fun t4 => (f_J7_fill_53178 h3 t4 (0 : Int32)).bind fun h5 => (f_X0_relateSayings_l23 v0 v1 (0 : Int32) h5).bind fun h26 => some h26
theorem s_X0_relateSayings {h : aH} {v0 : Nat} {v1 : Nat} {out : aH} (hf0 : f_X0_relateSayings h v0 v1 = some out) : EV 1 yX0_relateSayings cX0_relateSayings 5 none h [.ref v0, .ref v1] none out 0 0 := by
  refine EV.of (own := RX0) (lv0 := [(0, .ref v0), (1, .ref v1)]) (by decide +kernel) rfl rfl (Nat.le_of_ble_eq_true rfl) ?_
  intro p l e s m args below meth c D cA B Hb C hin
  unfold f_X0_relateSayings at hf0
  refine r_aload_n C dX0_relateSayings_0 rfl ?_
  refine r_iconst (v := 0) C dX0_relateSayings_1 (by decide) ?_
  obtain ⟨h1, e2, hf0⟩ := ob hf0
  refine r_putI C fk_X0_24 dX0_relateSayings_2 e2 ?_
  refine r_aload_n C dX0_relateSayings_5 rfl ?_
  obtain ⟨t3, e4, hf0⟩ := ob hf0
  refine r_getR C fk_X0_18 rfl dX0_relateSayings_6 e4 ?_
  refine r_iconst (v := 0) C dX0_relateSayings_9 (by decide) ?_
  obtain ⟨h5, e6, hf0⟩ := ob hf0
  refine r_cS (rest := []) (st2 := []) C (s_J7_fill_53178 e6) mk_J7_fill_53178 sm_J7_fill_53178 lk_X0_52 rfl rfl rfl dX0_relateSayings_10 (Nat.le_of_ble_eq_true rfl) ⟨Nat.le_of_ble_eq_true rfl, Nat.le_of_ble_eq_true rfl⟩ ⟨Nat.le_of_ble_eq_true rfl, Nat.le_of_ble_eq_true rfl⟩ ?_
  refine r_aload_n C dX0_relateSayings_13 rfl ?_
  obtain ⟨t7, e8, hf0⟩ := ob hf0
  refine r_getR C fk_X0_21 rfl dX0_relateSayings_14 e8 ?_
  refine r_iconst (v := 0) C dX0_relateSayings_17 (by decide) ?_
  obtain ⟨h9, e10, hf0⟩ := ob hf0
  refine r_cS (rest := []) (st2 := []) C (s_J7_fill_53178 e10) mk_J7_fill_53178 sm_J7_fill_53178 lk_X0_52 rfl rfl rfl dX0_relateSayings_18 (Nat.le_of_ble_eq_true rfl) ⟨Nat.le_of_ble_eq_true rfl, Nat.le_of_ble_eq_true rfl⟩ ⟨Nat.le_of_ble_eq_true rfl, Nat.le_of_ble_eq_true rfl⟩ ?_
  refine r_iconst (v := 0) C dX0_relateSayings_21 (by decide) ?_
  refine r_istore_n (lv' := [(2, .int (0 : Int32)), (0, .ref v0), (1, .ref v1)]) C dX0_relateSayings_22 (by decide) rfl rfl ?_
  obtain ⟨y11, hl23, hf0⟩ := ob hf0
  have L23 : ∀ (n : Nat) (t12 : Int32) (h13 : aH), whileL n (fun q : Int32 × aH => f_X0_relateSayings_b23 v0 v1 q.1 q.2) (t12, h13) = some y11 → gW p l e (rmO 1 0 0) s m args below meth c (MQ below (eQ D cA B Hb out none) args s 0 0 (fun q => B ≤ q)) D cA B Hb 5 h13 23 [(0, .ref v0), (1, .ref v1), (2, .int t12)] [] 0 0 := by
    intro n
    induction n with
    | zero => intro t12 h13 hz; cases hz
    | succ n ih23 =>
      intro t12 h13 hz
      obtain ⟨x23, hf1, hk23⟩ := wl hz
      replace hf1 : f_X0_relateSayings_b23 v0 v1 t12 h13 = some x23 := hf1
      unfold f_X0_relateSayings_b23 at hf1
      have J126 : ∀ (h14 : aH) (t15 : Int32), f_X0_relateSayings_j126 h14 v0 v1 t15 = some x23 → gW p l e (rmO 1 0 0) s m args below meth c (MQ below (eQ D cA B Hb out none) args s 0 0 (fun q => B ≤ q)) D cA B Hb 5 h14 126 [(0, .ref v0), (1, .ref v1), (2, .int t15)] [] 0 0 := by
        intro h14 t15 hf1
        unfold f_X0_relateSayings_j126 at hf1
        obtain ⟨t16, e17, hf1⟩ := ob hf1
        refine r_iinc (lv' := [(2, .int t16), (0, .ref v0), (1, .ref v1)]) C dX0_relateSayings_126 rfl e17 (by decide) rfl ?_
        refine r_goto (tgt := 23) C dX0_relateSayings_129 (by decide) ?_
        obtain rfl := so hf1
        refine r_subk [1, 2, 0] (lv' := [(0, .ref v0), (1, .ref v1), (2, .int t16)]) rfl ?_
        exact ih23 t16 h14 hk23
      refine r_iload_n C dX0_relateSayings_23 rfl ?_
      refine r_aload_n C dX0_relateSayings_24 rfl ?_
      obtain ⟨t18, e19, hf1⟩ := ob hf1
      refine r_getI C fk_X0_41 rfl dX0_relateSayings_25 e19 ?_
      refine r_icmp_ge (tgt := 132) C dX0_relateSayings_28 (by decide) (fun c20 => ?_) (fun c20 => ?_)
      · rw [if_pos c20] at hf1
        obtain rfl := so hf1
        obtain rfl := so (show some h13 = some y11 from hk23)
        obtain rfl := so hf0
        exact r_vret C dX0_relateSayings_132
      · rw [if_neg c20] at hf1
        refine r_aload_n C dX0_relateSayings_31 rfl ?_
        refine r_iload_n C dX0_relateSayings_32 rfl ?_
        obtain ⟨u22, e21, hf1⟩ := ob hf1
        obtain ⟨t23, e24, hf1⟩ := ob hf1
        refine r_cV (ci := 1) (rest := []) (st2 := [.int t23]) C (s_X1_canBe e24) mk_X1_canBe rfl (ck_k e21) (by decide) im_X1_canBe sl_X1_canBe lk_X0_44 rfl rfl rfl dX0_relateSayings_33 (Nat.le_of_ble_eq_true rfl) ⟨Nat.le_of_ble_eq_true rfl, Nat.le_of_ble_eq_true rfl⟩ ⟨Nat.le_of_ble_eq_true rfl, Nat.le_of_ble_eq_true rfl⟩ ?_
        refine r_ifne (tgt := 42) C dX0_relateSayings_36 (by decide) (fun c25 => ?_) (fun c25 => ?_)
        · rw [if_neg c25] at hf1
          refine r_aload_n C dX0_relateSayings_42 rfl ?_
          obtain ⟨t26, e27, hf1⟩ := ob hf1
          refine r_getR C fk_X0_58 rfl dX0_relateSayings_43 e27 ?_
          refine r_iload_n C dX0_relateSayings_46 rfl ?_
          obtain ⟨t28, e29, hf1⟩ := ob hf1
          refine r_ldI C dX0_relateSayings_47 e29 ?_
          refine r_aload_n C dX0_relateSayings_48 rfl ?_
          obtain ⟨t30, e31, hf1⟩ := ob hf1
          refine r_getR C fk_X0_58 rfl dX0_relateSayings_49 e31 ?_
          refine r_iload_n C dX0_relateSayings_52 rfl ?_
          obtain ⟨t32, e33, hf1⟩ := ob hf1
          refine r_ldI C dX0_relateSayings_53 e33 ?_
          refine r_iconst (v := -1) C dX0_relateSayings_54 (by decide) ?_
          refine r_ixor C dX0_relateSayings_55 ?_
          obtain ⟨t34, e35, hf1⟩ := ob hf1
          refine r_cS (rest := []) (st2 := [.int t34]) C (s_X0_sayingsOf e35) mk_X0_sayingsOf sm_X0_sayingsOf lk_X0_61 rfl rfl rfl dX0_relateSayings_56 (Nat.le_of_ble_eq_true rfl) ⟨Nat.le_of_ble_eq_true rfl, Nat.le_of_ble_eq_true rfl⟩ ⟨Nat.le_of_ble_eq_true rfl, Nat.le_of_ble_eq_true rfl⟩ ?_
          refine r_istore_n (lv' := [(3, .int t34), (0, .ref v0), (1, .ref v1), (2, .int t12)]) C dX0_relateSayings_59 (by decide) rfl rfl ?_
          refine r_aload_n C dX0_relateSayings_60 rfl ?_
          refine r_dup C dX0_relateSayings_61 rfl ?_
          obtain ⟨t36, e37, hf1⟩ := ob hf1
          refine r_getI C fk_X0_24 rfl dX0_relateSayings_62 e37 ?_
          refine r_iload_n C dX0_relateSayings_65 rfl ?_
          refine r_iconst (v := -1) C dX0_relateSayings_66 (by decide) ?_
          refine r_ixor C dX0_relateSayings_67 ?_
          refine r_ior C dX0_relateSayings_68 ?_
          obtain ⟨h38, e39, hf1⟩ := ob hf1
          refine r_putI C fk_X0_24 dX0_relateSayings_69 e39 ?_
          refine r_iconst (v := 0) C dX0_relateSayings_72 (by decide) ?_
          refine r_istore (lv' := [(4, .int (0 : Int32)), (3, .int t34), (0, .ref v0), (1, .ref v1), (2, .int t12)]) C dX0_relateSayings_73 (by decide) rfl rfl ?_
          obtain ⟨y40, hl75, hf1⟩ := ob hf1
          have L75 : ∀ (n : Nat) (t41 : Int32) (h42 : aH), whileL n (fun q : Int32 × aH => f_X0_relateSayings_b75 v0 v1 t12 t34 q.1 q.2) (t41, h42) = some y40 → gW p l e (rmO 1 0 0) s m args below meth c (MQ below (eQ D cA B Hb out none) args s 0 0 (fun q => B ≤ q)) D cA B Hb 5 h42 75 [(0, .ref v0), (1, .ref v1), (2, .int t12), (3, .int t34), (4, .int t41)] [] 0 0 := by
            intro n
            induction n with
            | zero => intro t41 h42 hz; cases hz
            | succ n ih75 =>
              intro t41 h42 hz
              obtain ⟨x75, hf2, hk75⟩ := wl hz
              replace hf2 : f_X0_relateSayings_b75 v0 v1 t12 t34 t41 h42 = some x75 := hf2
              unfold f_X0_relateSayings_b75 at hf2
              have J120 : ∀ (h43 : aH) (t44 : Int32), f_X0_relateSayings_j120 h43 v0 v1 t12 t34 t44 = some x75 → gW p l e (rmO 1 0 0) s m args below meth c (MQ below (eQ D cA B Hb out none) args s 0 0 (fun q => B ≤ q)) D cA B Hb 5 h43 120 [(0, .ref v0), (1, .ref v1), (2, .int t12), (3, .int t34), (4, .int t44)] [] 0 0 := by
                intro h43 t44 hf2
                unfold f_X0_relateSayings_j120 at hf2
                obtain ⟨t45, e46, hf2⟩ := ob hf2
                refine r_iinc (lv' := [(4, .int t45), (0, .ref v0), (1, .ref v1), (2, .int t12), (3, .int t34)]) C dX0_relateSayings_120 rfl e46 (by decide) rfl ?_
                refine r_goto (tgt := 75) C dX0_relateSayings_123 (by decide) ?_
                obtain rfl := so hf2
                refine r_subk [1, 2, 3, 4, 0] (lv' := [(0, .ref v0), (1, .ref v1), (2, .int t12), (3, .int t34), (4, .int t45)]) rfl ?_
                exact ih75 t45 h43 hk75
              refine r_iload C dX0_relateSayings_75 rfl ?_
              refine r_aload_n C dX0_relateSayings_77 rfl ?_
              obtain ⟨t47, e48, hf2⟩ := ob hf2
              refine r_getI C fk_X0_65 rfl dX0_relateSayings_78 e48 ?_
              refine r_icmp_ge (tgt := 126) C dX0_relateSayings_81 (by decide) (fun c49 => ?_) (fun c49 => ?_)
              · rw [if_pos c49] at hf2
                obtain rfl := so hf2
                obtain rfl := so (show some h42 = some y40 from hk75)
                refine r_subk [0, 1, 2] (lv' := [(0, .ref v0), (1, .ref v1), (2, .int t12)]) rfl ?_
                exact J126 h42 t12 hf1
              · rw [if_neg c49] at hf2
                refine r_aload_n C dX0_relateSayings_84 rfl ?_
                refine r_iload C dX0_relateSayings_85 rfl ?_
                refine r_iload_n C dX0_relateSayings_87 rfl ?_
                obtain ⟨u51, e50, hf2⟩ := ob hf2
                obtain ⟨t52, e53, hf2⟩ := ob hf2
                refine r_cV (ci := 1) (rest := []) (st2 := [.int t52]) C (s_X1_inQuestion e53) mk_X1_inQuestion rfl (ck_k e50) (by decide) im_X1_inQuestion sl_X1_inQuestion lk_X0_68 rfl rfl rfl dX0_relateSayings_88 (Nat.le_of_ble_eq_true rfl) ⟨Nat.le_of_ble_eq_true rfl, Nat.le_of_ble_eq_true rfl⟩ ⟨Nat.le_of_ble_eq_true rfl, Nat.le_of_ble_eq_true rfl⟩ ?_
                refine r_iconst (v := 1) C dX0_relateSayings_91 (by decide) ?_
                refine r_icmp_ne (tgt := 109) C dX0_relateSayings_92 (by decide) (fun c54 => ?_) (fun c54 => ?_)
                · rw [if_neg c54] at hf2
                  refine r_aload_n C dX0_relateSayings_109 rfl ?_
                  obtain ⟨t55, e56, hf2⟩ := ob hf2
                  refine r_getR C fk_X0_21 rfl dX0_relateSayings_110 e56 ?_
                  refine r_iload C dX0_relateSayings_113 rfl ?_
                  refine r_dup2 C dX0_relateSayings_115 rfl rfl ?_
                  obtain ⟨t57, e58, hf2⟩ := ob hf2
                  refine r_ldI C dX0_relateSayings_116 e58 ?_
                  refine r_iload_n C dX0_relateSayings_117 rfl ?_
                  refine r_ior C dX0_relateSayings_118 ?_
                  obtain ⟨h59, e60, hf2⟩ := ob hf2
                  refine r_stI C dX0_relateSayings_119 e60 ?_
                  exact J120 h59 t41 hf2
                · rw [if_pos c54] at hf2
                  refine r_aload_n C dX0_relateSayings_95 rfl ?_
                  obtain ⟨t61, e62, hf2⟩ := ob hf2
                  refine r_getR C fk_X0_18 rfl dX0_relateSayings_96 e62 ?_
                  refine r_iload C dX0_relateSayings_99 rfl ?_
                  refine r_dup2 C dX0_relateSayings_101 rfl rfl ?_
                  obtain ⟨t63, e64, hf2⟩ := ob hf2
                  refine r_ldI C dX0_relateSayings_102 e64 ?_
                  refine r_iload_n C dX0_relateSayings_103 rfl ?_
                  refine r_ior C dX0_relateSayings_104 ?_
                  obtain ⟨h65, e66, hf2⟩ := ob hf2
                  refine r_stI C dX0_relateSayings_105 e66 ?_
                  refine r_goto (tgt := 120) C dX0_relateSayings_106 (by decide) ?_
                  exact J120 h65 t41 hf2
          refine r_subk [2, 3, 4, 1, 0] (lv' := [(0, .ref v0), (1, .ref v1), (2, .int t12), (3, .int t34), (4, .int (0 : Int32))]) rfl ?_
          exact L75 wN (0 : Int32) h38 hl75
        · rw [if_pos c25] at hf1
          refine r_goto (tgt := 126) C dX0_relateSayings_39 (by decide) ?_
          exact J126 h13 t12 hf1
  refine r_subk [1, 2, 0] (lv' := [(0, .ref v0), (1, .ref v1), (2, .int (0 : Int32))]) rfl ?_
  exact L23 wN (0 : Int32) h9 hl23
def f_X1_valueIn (h : aH) (v0 : Nat) (v1 : Int32) (v2 : Int32) : Option (Int32) := (gR h 1 v0 1).bind fun t1 => (lI h t1 (v2 + (1 : Int32))).bind fun t2 => (gR h 1 v0 1).bind fun t3 => (lI h t3 v2).bind fun t4 => (some (t2 - t4)).bind fun t5 => (gR h 1 v0 2).bind fun t6 => (lI h t6 v2).bind fun t7 => if t7 < (1 : Int32) then some (-1 : Int32) else if (1 : Int32) ≤ t5 then (gR h 1 v0 1).bind fun t8 => (lI h t8 v2).bind fun t9 => (gR h 1 v0 2).bind fun t10 => (lI h t10 v2).bind fun t11 => (nz t11).bind fun _ => (nz t5).bind fun _ => some (t9 + ((v1 / t11) - (v1 / t11) / t5 * t5)) else some (-1 : Int32)
theorem s_X1_valueIn {h : aH} {v0 : Nat} {v1 : Int32} {v2 : Int32} {out : Int32} (hf0 : f_X1_valueIn h v0 v1 v2 = some out) : EV 0 yX1_valueIn cX1_valueIn 4 (some .int) h [.ref v0, .int v1, .int v2] (some (.int out)) h 0 0 := by
  refine EV.of (own := RX1) (lv0 := [(0, .ref v0), (1, .int v1), (2, .int v2)]) (by decide +kernel) rfl rfl (Nat.le_of_ble_eq_true rfl) ?_
  intro p l e s m args below meth c D cA B Hb C hin
  unfold f_X1_valueIn at hf0
  refine r_aload_n C dX1_valueIn_0 rfl ?_
  obtain ⟨t1, e2, hf0⟩ := ob hf0
  refine r_getR C fk_X1_18 rfl dX1_valueIn_1 e2 ?_
  refine r_iload_n C dX1_valueIn_4 rfl ?_
  refine r_iconst (v := 1) C dX1_valueIn_5 (by decide) ?_
  refine r_iadd C dX1_valueIn_6 ?_
  obtain ⟨t3, e4, hf0⟩ := ob hf0
  refine r_ldI C dX1_valueIn_7 e4 ?_
  refine r_aload_n C dX1_valueIn_8 rfl ?_
  obtain ⟨t5, e6, hf0⟩ := ob hf0
  refine r_getR C fk_X1_18 rfl dX1_valueIn_9 e6 ?_
  refine r_iload_n C dX1_valueIn_12 rfl ?_
  obtain ⟨t7, e8, hf0⟩ := ob hf0
  refine r_ldI C dX1_valueIn_13 e8 ?_
  refine r_isub C dX1_valueIn_14 ?_
  obtain ⟨t9, e10, hf0⟩ := ob hf0
  refine r_istore_n (lv' := [(3, .int t9), (0, .ref v0), (1, .int v1), (2, .int v2)]) C dX1_valueIn_15 (by decide) e10 rfl ?_
  refine r_aload_n C dX1_valueIn_16 rfl ?_
  obtain ⟨t11, e12, hf0⟩ := ob hf0
  refine r_getR C fk_X1_22 rfl dX1_valueIn_17 e12 ?_
  refine r_iload_n C dX1_valueIn_20 rfl ?_
  obtain ⟨t13, e14, hf0⟩ := ob hf0
  refine r_ldI C dX1_valueIn_21 e14 ?_
  refine r_iconst (v := 1) C dX1_valueIn_22 (by decide) ?_
  refine r_icmp_lt (tgt := 31) C dX1_valueIn_23 (by decide) (fun c15 => ?_) (fun c15 => ?_)
  · rw [if_pos c15] at hf0
    refine r_iconst (v := -1) C dX1_valueIn_31 (by decide) ?_
    obtain rfl := so hf0
    exact r_iret C dX1_valueIn_32
  · rw [if_neg c15] at hf0
    refine r_iload_n C dX1_valueIn_26 rfl ?_
    refine r_iconst (v := 1) C dX1_valueIn_27 (by decide) ?_
    refine r_icmp_ge (tgt := 33) C dX1_valueIn_28 (by decide) (fun c16 => ?_) (fun c16 => ?_)
    · rw [if_pos c16] at hf0
      refine r_aload_n C dX1_valueIn_33 rfl ?_
      obtain ⟨t17, e18, hf0⟩ := ob hf0
      refine r_getR C fk_X1_18 rfl dX1_valueIn_34 e18 ?_
      refine r_iload_n C dX1_valueIn_37 rfl ?_
      obtain ⟨t19, e20, hf0⟩ := ob hf0
      refine r_ldI C dX1_valueIn_38 e20 ?_
      refine r_iload_n C dX1_valueIn_39 rfl ?_
      refine r_aload_n C dX1_valueIn_40 rfl ?_
      obtain ⟨t21, e22, hf0⟩ := ob hf0
      refine r_getR C fk_X1_22 rfl dX1_valueIn_41 e22 ?_
      refine r_iload_n C dX1_valueIn_44 rfl ?_
      obtain ⟨t23, e24, hf0⟩ := ob hf0
      refine r_ldI C dX1_valueIn_45 e24 ?_
      obtain ⟨u26, e25, hf0⟩ := ob hf0
      refine r_idiv C dX1_valueIn_46 (nz_k e25) ?_
      refine r_iload_n C dX1_valueIn_47 rfl ?_
      obtain ⟨u28, e27, hf0⟩ := ob hf0
      refine r_irem C dX1_valueIn_48 (nz_k e27) ?_
      refine r_iadd C dX1_valueIn_49 ?_
      obtain rfl := so hf0
      exact r_iret C dX1_valueIn_50
    · rw [if_neg c16] at hf0
      refine r_iconst (v := -1) C dX1_valueIn_31 (by decide) ?_
      obtain rfl := so hf0
      exact r_iret C dX1_valueIn_32
def f_X0_knownIn_j54 (h : aH) (v0 : Nat) (v1 : Int32) (v2 : Int32) (v3 : Int32) (v4 : Int32) : Option ((Int32 × Int32) ⊕ (Int32)) := (some (v4 + (1 : Int32))).bind fun t1 => some (.inl (v3, t1))
def f_X0_knownIn_b5 (h : aH) (v0 : Nat) (v1 : Int32) (v2 : Int32) (v3 : Int32) (v4 : Int32) : Option ((Int32 × Int32) ⊕ (Int32)) := (gI h 1 v0 12).bind fun t2 => if t2 ≤ v4 then some (.inr v3) else (gR h 1 v0 9).bind fun t3 => (lI h t3 v1).bind fun t4 => if ((t4 >>> (v4 &&& 31)) &&& (1 : Int32)) = 0 then f_X0_knownIn_j54 h v0 v1 v2 v3 v4 else (ck h 1 v0).bind fun _ => (f_X1_valueIn h v0 v2 v4).bind fun t5 => (gR h 1 v0 1).bind fun t6 => (lI h t6 v4).bind fun t7 => (gR h 1 v0 2).bind fun t8 => (lI h t8 v4).bind fun t9 => (some (v3 + ((t5 - t7) * t9))).bind fun t10 => f_X0_knownIn_j54 h v0 v1 v2 t10 v4
def f_X0_knownIn_l5 (h : aH) (v0 : Nat) (v1 : Int32) (v2 : Int32) (v3 : Int32) (v4 : Int32) : Option (Int32) := whileL wN (fun q : Int32 × Int32 => f_X0_knownIn_b5 h v0 v1 v2 q.1 q.2) (v3, v4)
def f_X0_knownIn (h : aH) (v0 : Nat) (v1 : Int32) (v2 : Int32) : Option (Int32) := (f_X0_knownIn_l5 h v0 v1 v2 (0 : Int32) (0 : Int32)).bind fun t11 => some t11
theorem s_X0_knownIn {h : aH} {v0 : Nat} {v1 : Int32} {v2 : Int32} {out : Int32} (hf0 : f_X0_knownIn h v0 v1 v2 = some out) : EV 1 yX0_knownIn cX0_knownIn 5 (some .int) h [.ref v0, .int v1, .int v2] (some (.int out)) h 0 0 := by
  refine EV.of (own := RX0) (lv0 := [(0, .ref v0), (1, .int v1), (2, .int v2)]) (by decide +kernel) rfl rfl (Nat.le_of_ble_eq_true rfl) ?_
  intro p l e s m args below meth c D cA B Hb C hin
  unfold f_X0_knownIn at hf0
  refine r_iconst (v := 0) C dX0_knownIn_0 (by decide) ?_
  refine r_istore_n (lv' := [(3, .int (0 : Int32)), (0, .ref v0), (1, .int v1), (2, .int v2)]) C dX0_knownIn_1 (by decide) rfl rfl ?_
  refine r_iconst (v := 0) C dX0_knownIn_2 (by decide) ?_
  refine r_istore (lv' := [(4, .int (0 : Int32)), (3, .int (0 : Int32)), (0, .ref v0), (1, .int v1), (2, .int v2)]) C dX0_knownIn_3 (by decide) rfl rfl ?_
  obtain ⟨y1, hl5, hf0⟩ := ob hf0
  have L5 : ∀ (n : Nat) (t2 : Int32) (t3 : Int32), whileL n (fun q : Int32 × Int32 => f_X0_knownIn_b5 h v0 v1 v2 q.1 q.2) (t2, t3) = some y1 → gW p l e (rmO 1 0 0) s m args below meth c (MQ below (eQ D cA B Hb h (some (.int out))) args s 0 0 (fun q => B ≤ q)) D cA B Hb 5 h 5 [(0, .ref v0), (1, .int v1), (2, .int v2), (3, .int t2), (4, .int t3)] [] 0 0 := by
    intro n
    induction n with
    | zero => intro t2 t3 hz; cases hz
    | succ n ih5 =>
      intro t2 t3 hz
      obtain ⟨x5, hf1, hk5⟩ := wl hz
      replace hf1 : f_X0_knownIn_b5 h v0 v1 v2 t2 t3 = some x5 := hf1
      unfold f_X0_knownIn_b5 at hf1
      have J54 : ∀ (t4 : Int32) (t5 : Int32), f_X0_knownIn_j54 h v0 v1 v2 t4 t5 = some x5 → gW p l e (rmO 1 0 0) s m args below meth c (MQ below (eQ D cA B Hb h (some (.int out))) args s 0 0 (fun q => B ≤ q)) D cA B Hb 5 h 54 [(0, .ref v0), (1, .int v1), (2, .int v2), (3, .int t4), (4, .int t5)] [] 0 0 := by
        intro t4 t5 hf1
        unfold f_X0_knownIn_j54 at hf1
        obtain ⟨t6, e7, hf1⟩ := ob hf1
        refine r_iinc (lv' := [(4, .int t6), (0, .ref v0), (1, .int v1), (2, .int v2), (3, .int t4)]) C dX0_knownIn_54 rfl e7 (by decide) rfl ?_
        refine r_goto (tgt := 5) C dX0_knownIn_57 (by decide) ?_
        obtain rfl := so hf1
        refine r_subk [1, 2, 3, 4, 0] (lv' := [(0, .ref v0), (1, .int v1), (2, .int v2), (3, .int t4), (4, .int t6)]) rfl ?_
        exact ih5 t4 t6 hk5
      refine r_iload C dX0_knownIn_5 rfl ?_
      refine r_aload_n C dX0_knownIn_7 rfl ?_
      obtain ⟨t8, e9, hf1⟩ := ob hf1
      refine r_getI C fk_X0_75 rfl dX0_knownIn_8 e9 ?_
      refine r_icmp_ge (tgt := 60) C dX0_knownIn_11 (by decide) (fun c10 => ?_) (fun c10 => ?_)
      · rw [if_pos c10] at hf1
        obtain rfl := so hf1
        obtain rfl := so (show some t2 = some y1 from hk5)
        refine r_iload_n C dX0_knownIn_60 rfl ?_
        obtain rfl := so hf0
        exact r_iret C dX0_knownIn_61
      · rw [if_neg c10] at hf1
        refine r_aload_n C dX0_knownIn_14 rfl ?_
        obtain ⟨t11, e12, hf1⟩ := ob hf1
        refine r_getR C fk_X0_78 rfl dX0_knownIn_15 e12 ?_
        refine r_iload_n C dX0_knownIn_18 rfl ?_
        obtain ⟨t13, e14, hf1⟩ := ob hf1
        refine r_ldI C dX0_knownIn_19 e14 ?_
        refine r_iload C dX0_knownIn_20 rfl ?_
        refine r_ishr C dX0_knownIn_22 ?_
        refine r_iconst (v := 1) C dX0_knownIn_23 (by decide) ?_
        refine r_iand C dX0_knownIn_24 ?_
        refine r_ifeq (tgt := 54) C dX0_knownIn_25 (by decide) (fun c15 => ?_) (fun c15 => ?_)
        · rw [if_pos c15] at hf1
          exact J54 t2 t3 hf1
        · rw [if_neg c15] at hf1
          refine r_iload_n C dX0_knownIn_28 rfl ?_
          refine r_aload_n C dX0_knownIn_29 rfl ?_
          refine r_iload_n C dX0_knownIn_30 rfl ?_
          refine r_iload C dX0_knownIn_31 rfl ?_
          obtain ⟨u17, e16, hf1⟩ := ob hf1
          obtain ⟨t18, e19, hf1⟩ := ob hf1
          refine r_cV (ci := 1) (rest := [.int t2]) (st2 := [.int t18, .int t2]) C (s_X1_valueIn e19) mk_X1_valueIn rfl (ck_k e16) (by decide) im_X1_valueIn sl_X1_valueIn lk_X0_81 rfl rfl rfl dX0_knownIn_33 (Nat.le_of_ble_eq_true rfl) ⟨Nat.le_of_ble_eq_true rfl, Nat.le_of_ble_eq_true rfl⟩ ⟨Nat.le_of_ble_eq_true rfl, Nat.le_of_ble_eq_true rfl⟩ ?_
          refine r_aload_n C dX0_knownIn_36 rfl ?_
          obtain ⟨t20, e21, hf1⟩ := ob hf1
          refine r_getR C fk_X0_84 rfl dX0_knownIn_37 e21 ?_
          refine r_iload C dX0_knownIn_40 rfl ?_
          obtain ⟨t22, e23, hf1⟩ := ob hf1
          refine r_ldI C dX0_knownIn_42 e23 ?_
          refine r_isub C dX0_knownIn_43 ?_
          refine r_aload_n C dX0_knownIn_44 rfl ?_
          obtain ⟨t24, e25, hf1⟩ := ob hf1
          refine r_getR C fk_X0_87 rfl dX0_knownIn_45 e25 ?_
          refine r_iload C dX0_knownIn_48 rfl ?_
          obtain ⟨t26, e27, hf1⟩ := ob hf1
          refine r_ldI C dX0_knownIn_50 e27 ?_
          refine r_imul C dX0_knownIn_51 ?_
          refine r_iadd C dX0_knownIn_52 ?_
          obtain ⟨t28, e29, hf1⟩ := ob hf1
          refine r_istore_n (lv' := [(3, .int t28), (0, .ref v0), (1, .int v1), (2, .int v2), (4, .int t3)]) C dX0_knownIn_53 (by decide) e29 rfl ?_
          refine r_subk [1, 2, 3, 0, 4] (lv' := [(0, .ref v0), (1, .int v1), (2, .int v2), (3, .int t28), (4, .int t3)]) rfl ?_
          exact J54 t28 t3 hf1
  refine r_subk [2, 3, 4, 1, 0] (lv' := [(0, .ref v0), (1, .int v1), (2, .int v2), (3, .int (0 : Int32)), (4, .int (0 : Int32))]) rfl ?_
  exact L5 wN (0 : Int32) (0 : Int32) hl5
def f_X0_gatherKnown_j74 (h : aH) (v0 : Nat) (v1 : Nat) (v2 : Int32) (v3 : Int32) : Option ((Int32 × aH) ⊕ (aH)) := (some (v3 + (1 : Int32))).bind fun t5 => some (.inl (t5, h))
def f_X0_gatherKnown_b18 (v0 : Nat) (v1 : Nat) (v2 : Int32) (v3 : Int32) (h : aH) : Option ((Int32 × aH) ⊕ (aH)) := (gI h 1 v1 14).bind fun t6 => if t6 ≤ v3 then some (.inr h) else (ck h 1 v1).bind fun _ => (f_X1_canBe h v1 v3).bind fun t7 => if t7 = 0 then f_X0_gatherKnown_j74 h v0 v1 v2 v3 else (f_X0_knownIn h v1 v2 v3).bind fun t8 => (gR h 0 v0 0).bind fun t9 => (lI h t9 t8).bind fun t10 => (gR h 1 v1 6).bind fun t11 => (lI h t11 v3).bind fun t12 => (sI h t9 t8 (t10 &&& t12)).bind fun h13 => (gR h13 0 v0 1).bind fun t14 => (lI h13 t14 t8).bind fun t15 => (gR h13 1 v1 6).bind fun t16 => (lI h13 t16 v3).bind fun t17 => (sI h13 t14 t8 (t15 ||| t17)).bind fun h18 => f_X0_gatherKnown_j74 h18 v0 v1 v2 v3
def f_X0_gatherKnown_l18 (v0 : Nat) (v1 : Nat) (v2 : Int32) (v3 : Int32) (h : aH) : Option (aH) := whileL wN (fun q : Int32 × aH => f_X0_gatherKnown_b18 v0 v1 v2 q.1 q.2) (v3, h)
def f_X0_gatherKnown (h : aH) (v0 : Nat) (v1 : Nat) (v2 : Int32) : Option (aH) := (gR h 0 v0 0).bind fun t1 => (f_J7_fill_53178 h t1 (-1 : Int32)).bind fun h2 => (gR h2 0 v0 1).bind fun t3 => (f_J7_fill_53178 h2 t3 (0 : Int32)).bind fun h4 => (f_X0_gatherKnown_l18 v0 v1 v2 (0 : Int32) h4).bind fun h19 => some h19
theorem s_X0_gatherKnown {h : aH} {v0 : Nat} {v1 : Nat} {v2 : Int32} {out : aH} (hf0 : f_X0_gatherKnown h v0 v1 v2 = some out) : EV 2 yX0_gatherKnown cX0_gatherKnown 5 none h [.ref v0, .ref v1, .int v2] none out 0 0 := by
  refine EV.of (own := RX0) (lv0 := [(0, .ref v0), (1, .ref v1), (2, .int v2)]) (by decide +kernel) rfl rfl (Nat.le_of_ble_eq_true rfl) ?_
  intro p l e s m args below meth c D cA B Hb C hin
  unfold f_X0_gatherKnown at hf0
  refine r_aload_n C dX0_gatherKnown_0 rfl ?_
  obtain ⟨t1, e2, hf0⟩ := ob hf0
  refine r_getR C fk_X0_9 rfl dX0_gatherKnown_1 e2 ?_
  refine r_iconst (v := -1) C dX0_gatherKnown_4 (by decide) ?_
  obtain ⟨h3, e4, hf0⟩ := ob hf0
  refine r_cS (rest := []) (st2 := []) C (s_J7_fill_53178 e4) mk_J7_fill_53178 sm_J7_fill_53178 lk_X0_52 rfl rfl rfl dX0_gatherKnown_5 (Nat.le_of_ble_eq_true rfl) ⟨Nat.le_of_ble_eq_true rfl, Nat.le_of_ble_eq_true rfl⟩ ⟨Nat.le_of_ble_eq_true rfl, Nat.le_of_ble_eq_true rfl⟩ ?_
  refine r_aload_n C dX0_gatherKnown_8 rfl ?_
  obtain ⟨t5, e6, hf0⟩ := ob hf0
  refine r_getR C fk_X0_15 rfl dX0_gatherKnown_9 e6 ?_
  refine r_iconst (v := 0) C dX0_gatherKnown_12 (by decide) ?_
  obtain ⟨h7, e8, hf0⟩ := ob hf0
  refine r_cS (rest := []) (st2 := []) C (s_J7_fill_53178 e8) mk_J7_fill_53178 sm_J7_fill_53178 lk_X0_52 rfl rfl rfl dX0_gatherKnown_13 (Nat.le_of_ble_eq_true rfl) ⟨Nat.le_of_ble_eq_true rfl, Nat.le_of_ble_eq_true rfl⟩ ⟨Nat.le_of_ble_eq_true rfl, Nat.le_of_ble_eq_true rfl⟩ ?_
  refine r_iconst (v := 0) C dX0_gatherKnown_16 (by decide) ?_
  refine r_istore_n (lv' := [(3, .int (0 : Int32)), (0, .ref v0), (1, .ref v1), (2, .int v2)]) C dX0_gatherKnown_17 (by decide) rfl rfl ?_
  obtain ⟨y9, hl18, hf0⟩ := ob hf0
  have L18 : ∀ (n : Nat) (t10 : Int32) (h11 : aH), whileL n (fun q : Int32 × aH => f_X0_gatherKnown_b18 v0 v1 v2 q.1 q.2) (t10, h11) = some y9 → gW p l e (rmO 2 0 0) s m args below meth c (MQ below (eQ D cA B Hb out none) args s 0 0 (fun q => B ≤ q)) D cA B Hb 5 h11 18 [(0, .ref v0), (1, .ref v1), (2, .int v2), (3, .int t10)] [] 0 0 := by
    intro n
    induction n with
    | zero => intro t10 h11 hz; cases hz
    | succ n ih18 =>
      intro t10 h11 hz
      obtain ⟨x18, hf1, hk18⟩ := wl hz
      replace hf1 : f_X0_gatherKnown_b18 v0 v1 v2 t10 h11 = some x18 := hf1
      unfold f_X0_gatherKnown_b18 at hf1
      have J74 : ∀ (h12 : aH) (t13 : Int32), f_X0_gatherKnown_j74 h12 v0 v1 v2 t13 = some x18 → gW p l e (rmO 2 0 0) s m args below meth c (MQ below (eQ D cA B Hb out none) args s 0 0 (fun q => B ≤ q)) D cA B Hb 5 h12 74 [(0, .ref v0), (1, .ref v1), (2, .int v2), (3, .int t13)] [] 0 0 := by
        intro h12 t13 hf1
        unfold f_X0_gatherKnown_j74 at hf1
        obtain ⟨t14, e15, hf1⟩ := ob hf1
        refine r_iinc (lv' := [(3, .int t14), (0, .ref v0), (1, .ref v1), (2, .int v2)]) C dX0_gatherKnown_74 rfl e15 (by decide) rfl ?_
        refine r_goto (tgt := 18) C dX0_gatherKnown_77 (by decide) ?_
        obtain rfl := so hf1
        refine r_subk [1, 2, 3, 0] (lv' := [(0, .ref v0), (1, .ref v1), (2, .int v2), (3, .int t14)]) rfl ?_
        exact ih18 t14 h12 hk18
      refine r_iload_n C dX0_gatherKnown_18 rfl ?_
      refine r_aload_n C dX0_gatherKnown_19 rfl ?_
      obtain ⟨t16, e17, hf1⟩ := ob hf1
      refine r_getI C fk_X0_41 rfl dX0_gatherKnown_20 e17 ?_
      refine r_icmp_ge (tgt := 80) C dX0_gatherKnown_23 (by decide) (fun c18 => ?_) (fun c18 => ?_)
      · rw [if_pos c18] at hf1
        obtain rfl := so hf1
        obtain rfl := so (show some h11 = some y9 from hk18)
        obtain rfl := so hf0
        exact r_vret C dX0_gatherKnown_80
      · rw [if_neg c18] at hf1
        refine r_aload_n C dX0_gatherKnown_26 rfl ?_
        refine r_iload_n C dX0_gatherKnown_27 rfl ?_
        obtain ⟨u20, e19, hf1⟩ := ob hf1
        obtain ⟨t21, e22, hf1⟩ := ob hf1
        refine r_cV (ci := 1) (rest := []) (st2 := [.int t21]) C (s_X1_canBe e22) mk_X1_canBe rfl (ck_k e19) (by decide) im_X1_canBe sl_X1_canBe lk_X0_44 rfl rfl rfl dX0_gatherKnown_28 (Nat.le_of_ble_eq_true rfl) ⟨Nat.le_of_ble_eq_true rfl, Nat.le_of_ble_eq_true rfl⟩ ⟨Nat.le_of_ble_eq_true rfl, Nat.le_of_ble_eq_true rfl⟩ ?_
        refine r_ifeq (tgt := 74) C dX0_gatherKnown_31 (by decide) (fun c23 => ?_) (fun c23 => ?_)
        · rw [if_pos c23] at hf1
          exact J74 h11 t10 hf1
        · rw [if_neg c23] at hf1
          refine r_aload_n C dX0_gatherKnown_34 rfl ?_
          refine r_iload_n C dX0_gatherKnown_35 rfl ?_
          refine r_iload_n C dX0_gatherKnown_36 rfl ?_
          obtain ⟨t24, e25, hf1⟩ := ob hf1
          refine r_cS (rest := []) (st2 := [.int t24]) C (s_X0_knownIn e25) mk_X0_knownIn sm_X0_knownIn lk_X0_71 rfl rfl rfl dX0_gatherKnown_37 (Nat.le_of_ble_eq_true rfl) ⟨Nat.le_of_ble_eq_true rfl, Nat.le_of_ble_eq_true rfl⟩ ⟨Nat.le_of_ble_eq_true rfl, Nat.le_of_ble_eq_true rfl⟩ ?_
          refine r_istore (lv' := [(4, .int t24), (0, .ref v0), (1, .ref v1), (2, .int v2), (3, .int t10)]) C dX0_gatherKnown_40 (by decide) rfl rfl ?_
          refine r_aload_n C dX0_gatherKnown_42 rfl ?_
          obtain ⟨t26, e27, hf1⟩ := ob hf1
          refine r_getR C fk_X0_9 rfl dX0_gatherKnown_43 e27 ?_
          refine r_iload C dX0_gatherKnown_46 rfl ?_
          refine r_dup2 C dX0_gatherKnown_48 rfl rfl ?_
          obtain ⟨t28, e29, hf1⟩ := ob hf1
          refine r_ldI C dX0_gatherKnown_49 e29 ?_
          refine r_aload_n C dX0_gatherKnown_50 rfl ?_
          obtain ⟨t30, e31, hf1⟩ := ob hf1
          refine r_getR C fk_X0_58 rfl dX0_gatherKnown_51 e31 ?_
          refine r_iload_n C dX0_gatherKnown_54 rfl ?_
          obtain ⟨t32, e33, hf1⟩ := ob hf1
          refine r_ldI C dX0_gatherKnown_55 e33 ?_
          refine r_iand C dX0_gatherKnown_56 ?_
          obtain ⟨h34, e35, hf1⟩ := ob hf1
          refine r_stI C dX0_gatherKnown_57 e35 ?_
          refine r_aload_n C dX0_gatherKnown_58 rfl ?_
          obtain ⟨t36, e37, hf1⟩ := ob hf1
          refine r_getR C fk_X0_15 rfl dX0_gatherKnown_59 e37 ?_
          refine r_iload C dX0_gatherKnown_62 rfl ?_
          refine r_dup2 C dX0_gatherKnown_64 rfl rfl ?_
          obtain ⟨t38, e39, hf1⟩ := ob hf1
          refine r_ldI C dX0_gatherKnown_65 e39 ?_
          refine r_aload_n C dX0_gatherKnown_66 rfl ?_
          obtain ⟨t40, e41, hf1⟩ := ob hf1
          refine r_getR C fk_X0_58 rfl dX0_gatherKnown_67 e41 ?_
          refine r_iload_n C dX0_gatherKnown_70 rfl ?_
          obtain ⟨t42, e43, hf1⟩ := ob hf1
          refine r_ldI C dX0_gatherKnown_71 e43 ?_
          refine r_ior C dX0_gatherKnown_72 ?_
          obtain ⟨h44, e45, hf1⟩ := ob hf1
          refine r_stI C dX0_gatherKnown_73 e45 ?_
          refine r_subk [1, 2, 3, 4] (lv' := [(0, .ref v0), (1, .ref v1), (2, .int v2), (3, .int t10)]) rfl ?_
          exact J74 h44 t10 hf1
  refine r_subk [1, 2, 3, 0] (lv' := [(0, .ref v0), (1, .ref v1), (2, .int v2), (3, .int (0 : Int32))]) rfl ?_
  exact L18 wN (0 : Int32) h7 hl18
def f_X0_otherThan (h : aH) (v0 : Nat) (v1 : Int32) : Option (Int32) := (gR h 0 v0 2).bind fun t1 => (lI h t1 v1).bind fun t2 => (gR h 0 v0 3).bind fun t3 => (lI h t3 v1).bind fun t4 => (gI h 0 v0 4).bind fun t5 => some (((t2 &&& t4) &&& t5) &&& (((3 : Int32) <<< (((2 : Int32) * v1) &&& 31)) ^^^ (-1 : Int32)))
theorem s_X0_otherThan {h : aH} {v0 : Nat} {v1 : Int32} {out : Int32} (hf0 : f_X0_otherThan h v0 v1 = some out) : EV 0 yX0_otherThan cX0_otherThan 2 (some .int) h [.ref v0, .int v1] (some (.int out)) h 0 0 := by
  refine EV.of (own := RX0) (lv0 := [(0, .ref v0), (1, .int v1)]) (by decide +kernel) rfl rfl (Nat.le_of_ble_eq_true rfl) ?_
  intro p l e s m args below meth c D cA B Hb C hin
  unfold f_X0_otherThan at hf0
  refine r_aload_n C dX0_otherThan_0 rfl ?_
  obtain ⟨t1, e2, hf0⟩ := ob hf0
  refine r_getR C fk_X0_18 rfl dX0_otherThan_1 e2 ?_
  refine r_iload_n C dX0_otherThan_4 rfl ?_
  obtain ⟨t3, e4, hf0⟩ := ob hf0
  refine r_ldI C dX0_otherThan_5 e4 ?_
  refine r_aload_n C dX0_otherThan_6 rfl ?_
  obtain ⟨t5, e6, hf0⟩ := ob hf0
  refine r_getR C fk_X0_21 rfl dX0_otherThan_7 e6 ?_
  refine r_iload_n C dX0_otherThan_10 rfl ?_
  obtain ⟨t7, e8, hf0⟩ := ob hf0
  refine r_ldI C dX0_otherThan_11 e8 ?_
  refine r_iand C dX0_otherThan_12 ?_
  refine r_aload_n C dX0_otherThan_13 rfl ?_
  obtain ⟨t9, e10, hf0⟩ := ob hf0
  refine r_getI C fk_X0_24 rfl dX0_otherThan_14 e10 ?_
  refine r_iand C dX0_otherThan_17 ?_
  refine r_iconst (v := 3) C dX0_otherThan_18 (by decide) ?_
  refine r_iconst (v := 2) C dX0_otherThan_19 (by decide) ?_
  refine r_iload_n C dX0_otherThan_20 rfl ?_
  refine r_imul C dX0_otherThan_21 ?_
  refine r_ishl C dX0_otherThan_22 ?_
  refine r_iconst (v := -1) C dX0_otherThan_23 (by decide) ?_
  refine r_ixor C dX0_otherThan_24 ?_
  refine r_iand C dX0_otherThan_25 ?_
  obtain rfl := so hf0
  exact r_iret C dX0_otherThan_26
def f_J6_bitCount_0f7a4 (h : aH) (v0 : Int32) : Option (Int32) := (some (v0 - (((Int32.toUInt32 v0 >>> (Int32.toUInt32 (1 : Int32) &&& Int32.toUInt32 31)).toInt32) &&& (1431655765 : Int32)))).bind fun t1 => (some ((t1 &&& (858993459 : Int32)) + (((Int32.toUInt32 t1 >>> (Int32.toUInt32 (2 : Int32) &&& Int32.toUInt32 31)).toInt32) &&& (858993459 : Int32)))).bind fun t2 => (some ((t2 + ((Int32.toUInt32 t2 >>> (Int32.toUInt32 (4 : Int32) &&& Int32.toUInt32 31)).toInt32)) &&& (252645135 : Int32))).bind fun t3 => (some (t3 + ((Int32.toUInt32 t3 >>> (Int32.toUInt32 (8 : Int32) &&& Int32.toUInt32 31)).toInt32))).bind fun t4 => (some (t4 + ((Int32.toUInt32 t4 >>> (Int32.toUInt32 (16 : Int32) &&& Int32.toUInt32 31)).toInt32))).bind fun t5 => some (t5 &&& (63 : Int32))
theorem s_J6_bitCount_0f7a4 {h : aH} {v0 : Int32} {out : Int32} (hf0 : f_J6_bitCount_0f7a4 h v0 = some out) : EV 0 yJ6_bitCount_0f7a4 cJ6_bitCount_0f7a4 1 (some .int) h [.int v0] (some (.int out)) h 0 0 := by
  refine EV.of (own := RJ6) (lv0 := [(0, .int v0)]) (by decide +kernel) rfl rfl (Nat.le_of_ble_eq_true rfl) ?_
  intro p l e s m args below meth c D cA B Hb C hin
  unfold f_J6_bitCount_0f7a4 at hf0
  refine r_iload_n C dJ6_bitCount_0f7a4_0 rfl ?_
  refine r_iload_n C dJ6_bitCount_0f7a4_1 rfl ?_
  refine r_iconst (v := 1) C dJ6_bitCount_0f7a4_2 (by decide) ?_
  refine r_iushr C dJ6_bitCount_0f7a4_3 ?_
  refine r_ldcw (v := 1431655765) C dJ6_bitCount_0f7a4_4 cn_J6_265 ?_
  refine r_iand C dJ6_bitCount_0f7a4_7 ?_
  refine r_isub C dJ6_bitCount_0f7a4_8 ?_
  obtain ⟨t1, e2, hf0⟩ := ob hf0
  refine r_istore_n (lv' := [(0, .int t1)]) C dJ6_bitCount_0f7a4_9 (by decide) e2 rfl ?_
  refine r_iload_n C dJ6_bitCount_0f7a4_10 rfl ?_
  refine r_ldcw (v := 858993459) C dJ6_bitCount_0f7a4_11 cn_J6_266 ?_
  refine r_iand C dJ6_bitCount_0f7a4_14 ?_
  refine r_iload_n C dJ6_bitCount_0f7a4_15 rfl ?_
  refine r_iconst (v := 2) C dJ6_bitCount_0f7a4_16 (by decide) ?_
  refine r_iushr C dJ6_bitCount_0f7a4_17 ?_
  refine r_ldcw (v := 858993459) C dJ6_bitCount_0f7a4_18 cn_J6_266 ?_
  refine r_iand C dJ6_bitCount_0f7a4_21 ?_
  refine r_iadd C dJ6_bitCount_0f7a4_22 ?_
  obtain ⟨t3, e4, hf0⟩ := ob hf0
  refine r_istore_n (lv' := [(0, .int t3)]) C dJ6_bitCount_0f7a4_23 (by decide) e4 rfl ?_
  refine r_iload_n C dJ6_bitCount_0f7a4_24 rfl ?_
  refine r_iload_n C dJ6_bitCount_0f7a4_25 rfl ?_
  refine r_iconst (v := 4) C dJ6_bitCount_0f7a4_26 (by decide) ?_
  refine r_iushr C dJ6_bitCount_0f7a4_27 ?_
  refine r_iadd C dJ6_bitCount_0f7a4_28 ?_
  refine r_ldcw (v := 252645135) C dJ6_bitCount_0f7a4_29 cn_J6_267 ?_
  refine r_iand C dJ6_bitCount_0f7a4_32 ?_
  obtain ⟨t5, e6, hf0⟩ := ob hf0
  refine r_istore_n (lv' := [(0, .int t5)]) C dJ6_bitCount_0f7a4_33 (by decide) e6 rfl ?_
  refine r_iload_n C dJ6_bitCount_0f7a4_34 rfl ?_
  refine r_iload_n C dJ6_bitCount_0f7a4_35 rfl ?_
  refine r_bipush (v := 8) C dJ6_bitCount_0f7a4_36 (by decide) ?_
  refine r_iushr C dJ6_bitCount_0f7a4_38 ?_
  refine r_iadd C dJ6_bitCount_0f7a4_39 ?_
  obtain ⟨t7, e8, hf0⟩ := ob hf0
  refine r_istore_n (lv' := [(0, .int t7)]) C dJ6_bitCount_0f7a4_40 (by decide) e8 rfl ?_
  refine r_iload_n C dJ6_bitCount_0f7a4_41 rfl ?_
  refine r_iload_n C dJ6_bitCount_0f7a4_42 rfl ?_
  refine r_bipush (v := 16) C dJ6_bitCount_0f7a4_43 (by decide) ?_
  refine r_iushr C dJ6_bitCount_0f7a4_45 ?_
  refine r_iadd C dJ6_bitCount_0f7a4_46 ?_
  obtain ⟨t9, e10, hf0⟩ := ob hf0
  refine r_istore_n (lv' := [(0, .int t9)]) C dJ6_bitCount_0f7a4_47 (by decide) e10 rfl ?_
  refine r_iload_n C dJ6_bitCount_0f7a4_48 rfl ?_
  refine r_bipush (v := 63) C dJ6_bitCount_0f7a4_49 (by decide) ?_
  refine r_iand C dJ6_bitCount_0f7a4_51 ?_
  obtain rfl := so hf0
  exact r_iret C dJ6_bitCount_0f7a4_52
def f_X0_firstOr (h : aH) (v0 : Int32) (v1 : Int32) : Option (Int32) := if v0 = 0 then some v1 else (f_J6_bitCount_0f7a4 h ((v0 &&& (-v0)) - (1 : Int32))).bind fun t1 => some t1
theorem s_X0_firstOr {h : aH} {v0 : Int32} {v1 : Int32} {out : Int32} (hf0 : f_X0_firstOr h v0 v1 = some out) : EV 1 yX0_firstOr cX0_firstOr 2 (some .int) h [.int v0, .int v1] (some (.int out)) h 0 0 := by
  refine EV.of (own := RX0) (lv0 := [(0, .int v0), (1, .int v1)]) (by decide +kernel) rfl rfl (Nat.le_of_ble_eq_true rfl) ?_
  intro p l e s m args below meth c D cA B Hb C hin
  unfold f_X0_firstOr at hf0
  refine r_iload_n C dX0_firstOr_0 rfl ?_
  refine r_ifne (tgt := 8) C dX0_firstOr_1 (by decide) (fun c1 => ?_) (fun c1 => ?_)
  · rw [if_neg c1] at hf0
    refine r_iload_n C dX0_firstOr_8 rfl ?_
    refine r_iload_n C dX0_firstOr_9 rfl ?_
    refine r_ineg C dX0_firstOr_10 ?_
    refine r_iand C dX0_firstOr_11 ?_
    refine r_iconst (v := 1) C dX0_firstOr_12 (by decide) ?_
    refine r_isub C dX0_firstOr_13 ?_
    obtain ⟨t2, e3, hf0⟩ := ob hf0
    refine r_cS (rest := []) (st2 := [.int t2]) C (s_J6_bitCount_0f7a4 e3) mk_J6_bitCount_0f7a4 sm_J6_bitCount_0f7a4 lk_X0_107 rfl rfl rfl dX0_firstOr_14 (Nat.le_of_ble_eq_true rfl) ⟨Nat.le_of_ble_eq_true rfl, Nat.le_of_ble_eq_true rfl⟩ ⟨Nat.le_of_ble_eq_true rfl, Nat.le_of_ble_eq_true rfl⟩ ?_
    obtain rfl := so hf0
    exact r_iret C dX0_firstOr_17
  · rw [if_pos c1] at hf0
    refine r_iload_n C dX0_firstOr_4 rfl ?_
    refine r_goto (tgt := 17) C dX0_firstOr_5 (by decide) ?_
    obtain rfl := so hf0
    exact r_iret C dX0_firstOr_17
def f_X0_honestTo (h : aH) (v0 : Nat) (v1 : Int32) (v2 : Int32) : Option (Int32) := (gR h 0 v0 0).bind fun t1 => (lI h t1 v2).bind fun t2 => if ((t2 >>> (v1 &&& 31)) &&& (1 : Int32)) = 0 then (gR h 0 v0 1).bind fun t3 => (lI h t3 v2).bind fun t4 => if ((t4 >>> (v1 &&& 31)) &&& (1 : Int32)) = 0 then (gR h 0 v0 2).bind fun t5 => (lI h t5 v1).bind fun t6 => some (t6 ^^^ (-1 : Int32)) else some (0 : Int32) else (gR h 0 v0 3).bind fun t7 => (lI h t7 v1).bind fun t8 => some ((t8 ^^^ (-1 : Int32)) &&& (((1 : Int32) <<< (((2 : Int32) * v1) &&& 31)) ^^^ (-1 : Int32)))
theorem s_X0_honestTo {h : aH} {v0 : Nat} {v1 : Int32} {v2 : Int32} {out : Int32} (hf0 : f_X0_honestTo h v0 v1 v2 = some out) : EV 0 yX0_honestTo cX0_honestTo 3 (some .int) h [.ref v0, .int v1, .int v2] (some (.int out)) h 0 0 := by
  refine EV.of (own := RX0) (lv0 := [(0, .ref v0), (1, .int v1), (2, .int v2)]) (by decide +kernel) rfl rfl (Nat.le_of_ble_eq_true rfl) ?_
  intro p l e s m args below meth c D cA B Hb C hin
  unfold f_X0_honestTo at hf0
  refine r_aload_n C dX0_honestTo_0 rfl ?_
  obtain ⟨t1, e2, hf0⟩ := ob hf0
  refine r_getR C fk_X0_9 rfl dX0_honestTo_1 e2 ?_
  refine r_iload_n C dX0_honestTo_4 rfl ?_
  obtain ⟨t3, e4, hf0⟩ := ob hf0
  refine r_ldI C dX0_honestTo_5 e4 ?_
  refine r_iload_n C dX0_honestTo_6 rfl ?_
  refine r_ishr C dX0_honestTo_7 ?_
  refine r_iconst (v := 1) C dX0_honestTo_8 (by decide) ?_
  refine r_iand C dX0_honestTo_9 ?_
  refine r_ifeq (tgt := 30) C dX0_honestTo_10 (by decide) (fun c5 => ?_) (fun c5 => ?_)
  · rw [if_pos c5] at hf0
    refine r_aload_n C dX0_honestTo_30 rfl ?_
    obtain ⟨t6, e7, hf0⟩ := ob hf0
    refine r_getR C fk_X0_15 rfl dX0_honestTo_31 e7 ?_
    refine r_iload_n C dX0_honestTo_34 rfl ?_
    obtain ⟨t8, e9, hf0⟩ := ob hf0
    refine r_ldI C dX0_honestTo_35 e9 ?_
    refine r_iload_n C dX0_honestTo_36 rfl ?_
    refine r_ishr C dX0_honestTo_37 ?_
    refine r_iconst (v := 1) C dX0_honestTo_38 (by decide) ?_
    refine r_iand C dX0_honestTo_39 ?_
    refine r_ifne (tgt := 54) C dX0_honestTo_40 (by decide) (fun c10 => ?_) (fun c10 => ?_)
    · rw [if_neg c10] at hf0
      refine r_iconst (v := 0) C dX0_honestTo_54 (by decide) ?_
      obtain rfl := so hf0
      exact r_iret C dX0_honestTo_55
    · rw [if_pos c10] at hf0
      refine r_aload_n C dX0_honestTo_43 rfl ?_
      obtain ⟨t11, e12, hf0⟩ := ob hf0
      refine r_getR C fk_X0_18 rfl dX0_honestTo_44 e12 ?_
      refine r_iload_n C dX0_honestTo_47 rfl ?_
      obtain ⟨t13, e14, hf0⟩ := ob hf0
      refine r_ldI C dX0_honestTo_48 e14 ?_
      refine r_iconst (v := -1) C dX0_honestTo_49 (by decide) ?_
      refine r_ixor C dX0_honestTo_50 ?_
      refine r_goto (tgt := 55) C dX0_honestTo_51 (by decide) ?_
      obtain rfl := so hf0
      exact r_iret C dX0_honestTo_55
  · rw [if_neg c5] at hf0
    refine r_aload_n C dX0_honestTo_13 rfl ?_
    obtain ⟨t15, e16, hf0⟩ := ob hf0
    refine r_getR C fk_X0_21 rfl dX0_honestTo_14 e16 ?_
    refine r_iload_n C dX0_honestTo_17 rfl ?_
    obtain ⟨t17, e18, hf0⟩ := ob hf0
    refine r_ldI C dX0_honestTo_18 e18 ?_
    refine r_iconst (v := -1) C dX0_honestTo_19 (by decide) ?_
    refine r_ixor C dX0_honestTo_20 ?_
    refine r_iconst (v := 1) C dX0_honestTo_21 (by decide) ?_
    refine r_iconst (v := 2) C dX0_honestTo_22 (by decide) ?_
    refine r_iload_n C dX0_honestTo_23 rfl ?_
    refine r_imul C dX0_honestTo_24 ?_
    refine r_ishl C dX0_honestTo_25 ?_
    refine r_iconst (v := -1) C dX0_honestTo_26 (by decide) ?_
    refine r_ixor C dX0_honestTo_27 ?_
    refine r_iand C dX0_honestTo_28 ?_
    obtain rfl := so hf0
    exact r_iret C dX0_honestTo_29
def f_X1_keepAnswers (h : aH) (v0 : Nat) (v1 : Int32) (v2 : Int32) (v3 : Int32) (v4 : Int32) : Option (aH) := (gR h 1 v0 11).bind fun t1 => (sI h t1 ((((v1 * (12 : Int32)) + v2) * (256 : Int32)) + v3) v4).bind fun h2 => some h2
theorem s_X1_keepAnswers {h : aH} {v0 : Nat} {v1 : Int32} {v2 : Int32} {v3 : Int32} {v4 : Int32} {out : aH} (hf0 : f_X1_keepAnswers h v0 v1 v2 v3 v4 = some out) : EV 0 yX1_keepAnswers cX1_keepAnswers 5 none h [.ref v0, .int v1, .int v2, .int v3, .int v4] none out 0 0 := by
  refine EV.of (own := RX1) (lv0 := [(0, .ref v0), (1, .int v1), (2, .int v2), (3, .int v3), (4, .int v4)]) (by decide +kernel) rfl rfl (Nat.le_of_ble_eq_true rfl) ?_
  intro p l e s m args below meth c D cA B Hb C hin
  unfold f_X1_keepAnswers at hf0
  refine r_aload_n C dX1_keepAnswers_0 rfl ?_
  obtain ⟨t1, e2, hf0⟩ := ob hf0
  refine r_getR C fk_X1_49 rfl dX1_keepAnswers_1 e2 ?_
  refine r_iload_n C dX1_keepAnswers_4 rfl ?_
  refine r_bipush (v := 12) C dX1_keepAnswers_5 (by decide) ?_
  refine r_imul C dX1_keepAnswers_7 ?_
  refine r_iload_n C dX1_keepAnswers_8 rfl ?_
  refine r_iadd C dX1_keepAnswers_9 ?_
  refine r_sipush (v := 256) C dX1_keepAnswers_10 (by decide) ?_
  refine r_imul C dX1_keepAnswers_13 ?_
  refine r_iload_n C dX1_keepAnswers_14 rfl ?_
  refine r_iadd C dX1_keepAnswers_15 ?_
  refine r_iload C dX1_keepAnswers_16 rfl ?_
  obtain ⟨h3, e4, hf0⟩ := ob hf0
  refine r_stI C dX1_keepAnswers_18 e4 ?_
  obtain rfl := so hf0
  exact r_vret C dX1_keepAnswers_19
def f_X0_fillWorld_j132 (h : aH) (v0 : Nat) (v1 : Nat) (v2 : Int32) (v3 : Int32) (v4 : Int32) (v5 : Int32) (v6 : Int32) (v7 : Int32) (v8 : Int32) (v9 : Int32) (v10 : Int32) : Option ((Int32 × aH) ⊕ (aH)) := (ck h 1 v1).bind fun _ => (f_X1_keepAnswers h v1 v2 v6 v3 (((v9 ||| (v10 <<< ((5 : Int32) &&& 31))) ||| (v8 <<< ((10 : Int32) &&& 31))) ||| (v7 <<< ((15 : Int32) &&& 31)))).bind fun h9 => (some (v6 + (1 : Int32))).bind fun t10 => some (.inl (t10, h9))
def f_X0_fillWorld_j130 (h : aH) (v0 : Nat) (v1 : Nat) (v2 : Int32) (v3 : Int32) (v4 : Int32) (v5 : Int32) (v6 : Int32) (v7 : Int32) (v8 : Int32) (v9 : Int32) (s0 : Int32) : Option ((Int32 × aH) ⊕ (aH)) := f_X0_fillWorld_j132 h v0 v1 v2 v3 v4 v5 v6 v7 v8 v9 s0
def f_X0_fillWorld_b43 (v0 : Nat) (v1 : Nat) (v2 : Int32) (v3 : Int32) (v4 : Int32) (v5 : Int32) (v6 : Int32) (h : aH) : Option ((Int32 × aH) ⊕ (aH)) := (gI h 1 v1 16).bind fun t11 => if t11 ≤ v6 then some (.inr h) else (some ((2 : Int32) * v6)).bind fun t12 => (ck h 0 v0).bind fun _ => (f_X0_otherThan h v0 v6).bind fun t13 => (f_X0_firstOr h (v5 &&& t13) t12).bind fun t14 => (gR h 1 v1 10).bind fun t15 => (lI h t15 v2).bind fun t16 => if ((t16 >>> (v6 &&& 31)) &&& (1 : Int32)) = 0 then (ck h 0 v0).bind fun _ => (f_X0_honestTo h v0 v6 v4).bind fun t17 => (f_X0_firstOr h (v5 &&& t17) t12).bind fun t18 => if t18 = t12 then f_X0_fillWorld_j130 h v0 v1 v2 v3 v4 v5 v6 t12 t14 t18 t12 else f_X0_fillWorld_j130 h v0 v1 v2 v3 v4 v5 v6 t12 t14 t18 (t18 ^^^ (1 : Int32)) else f_X0_fillWorld_j132 h v0 v1 v2 v3 v4 v5 v6 t12 t14 t14 t14
def f_X0_fillWorld_l43 (v0 : Nat) (v1 : Nat) (v2 : Int32) (v3 : Int32) (v4 : Int32) (v5 : Int32) (v6 : Int32) (h : aH) : Option (aH) := whileL wN (fun q : Int32 × aH => f_X0_fillWorld_b43 v0 v1 v2 v3 v4 v5 q.1 q.2) (v6, h)
def f_X0_fillWorld (h : aH) (v0 : Nat) (v1 : Nat) (v2 : Int32) (v3 : Int32) : Option (aH) := (f_X0_knownIn h v1 v2 v3).bind fun t1 => (gR h 0 v0 0).bind fun t2 => (lI h t2 t1).bind fun t3 => (gR h 0 v0 1).bind fun t4 => (lI h t4 t1).bind fun t5 => (f_X0_sayingsOf h t3 (t5 ^^^ (-1 : Int32))).bind fun t6 => (gI h 1 v1 16).bind fun t7 => (some (t6 &&& (((1 : Int32) <<< (((2 : Int32) * t7) &&& 31)) - (1 : Int32)))).bind fun t8 => (f_X0_fillWorld_l43 v0 v1 v2 v3 t1 t8 (0 : Int32) h).bind fun h19 => some h19
theorem s_X0_fillWorld {h : aH} {v0 : Nat} {v1 : Nat} {v2 : Int32} {v3 : Int32} {out : aH} (hf0 : f_X0_fillWorld h v0 v1 v2 v3 = some out) : EV 2 yX0_fillWorld cX0_fillWorld 11 none h [.ref v0, .ref v1, .int v2, .int v3] none out 0 0 := by
  refine EV.of (own := RX0) (lv0 := [(0, .ref v0), (1, .ref v1), (2, .int v2), (3, .int v3)]) (by decide +kernel) rfl rfl (Nat.le_of_ble_eq_true rfl) ?_
  intro p l e s m args below meth c D cA B Hb C hin
  unfold f_X0_fillWorld at hf0
  refine r_aload_n C dX0_fillWorld_0 rfl ?_
  refine r_iload_n C dX0_fillWorld_1 rfl ?_
  refine r_iload_n C dX0_fillWorld_2 rfl ?_
  obtain ⟨t1, e2, hf0⟩ := ob hf0
  refine r_cS (rest := []) (st2 := [.int t1]) C (s_X0_knownIn e2) mk_X0_knownIn sm_X0_knownIn lk_X0_71 rfl rfl rfl dX0_fillWorld_3 (Nat.le_of_ble_eq_true rfl) ⟨Nat.le_of_ble_eq_true rfl, Nat.le_of_ble_eq_true rfl⟩ ⟨Nat.le_of_ble_eq_true rfl, Nat.le_of_ble_eq_true rfl⟩ ?_
  refine r_istore (lv' := [(4, .int t1), (0, .ref v0), (1, .ref v1), (2, .int v2), (3, .int v3)]) C dX0_fillWorld_6 (by decide) rfl rfl ?_
  refine r_aload_n C dX0_fillWorld_8 rfl ?_
  obtain ⟨t3, e4, hf0⟩ := ob hf0
  refine r_getR C fk_X0_9 rfl dX0_fillWorld_9 e4 ?_
  refine r_iload C dX0_fillWorld_12 rfl ?_
  obtain ⟨t5, e6, hf0⟩ := ob hf0
  refine r_ldI C dX0_fillWorld_14 e6 ?_
  refine r_aload_n C dX0_fillWorld_15 rfl ?_
  obtain ⟨t7, e8, hf0⟩ := ob hf0
  refine r_getR C fk_X0_15 rfl dX0_fillWorld_16 e8 ?_
  refine r_iload C dX0_fillWorld_19 rfl ?_
  obtain ⟨t9, e10, hf0⟩ := ob hf0
  refine r_ldI C dX0_fillWorld_21 e10 ?_
  refine r_iconst (v := -1) C dX0_fillWorld_22 (by decide) ?_
  refine r_ixor C dX0_fillWorld_23 ?_
  obtain ⟨t11, e12, hf0⟩ := ob hf0
  refine r_cS (rest := []) (st2 := [.int t11]) C (s_X0_sayingsOf e12) mk_X0_sayingsOf sm_X0_sayingsOf lk_X0_61 rfl rfl rfl dX0_fillWorld_24 (Nat.le_of_ble_eq_true rfl) ⟨Nat.le_of_ble_eq_true rfl, Nat.le_of_ble_eq_true rfl⟩ ⟨Nat.le_of_ble_eq_true rfl, Nat.le_of_ble_eq_true rfl⟩ ?_
  refine r_iconst (v := 1) C dX0_fillWorld_27 (by decide) ?_
  refine r_iconst (v := 2) C dX0_fillWorld_28 (by decide) ?_
  refine r_aload_n C dX0_fillWorld_29 rfl ?_
  obtain ⟨t13, e14, hf0⟩ := ob hf0
  refine r_getI C fk_X0_65 rfl dX0_fillWorld_30 e14 ?_
  refine r_imul C dX0_fillWorld_33 ?_
  refine r_ishl C dX0_fillWorld_34 ?_
  refine r_iconst (v := 1) C dX0_fillWorld_35 (by decide) ?_
  refine r_isub C dX0_fillWorld_36 ?_
  refine r_iand C dX0_fillWorld_37 ?_
  obtain ⟨t15, e16, hf0⟩ := ob hf0
  refine r_istore (lv' := [(5, .int t15), (4, .int t1), (0, .ref v0), (1, .ref v1), (2, .int v2), (3, .int v3)]) C dX0_fillWorld_38 (by decide) e16 rfl ?_
  refine r_iconst (v := 0) C dX0_fillWorld_40 (by decide) ?_
  refine r_istore (lv' := [(6, .int (0 : Int32)), (5, .int t15), (4, .int t1), (0, .ref v0), (1, .ref v1), (2, .int v2), (3, .int v3)]) C dX0_fillWorld_41 (by decide) rfl rfl ?_
  obtain ⟨y17, hl43, hf0⟩ := ob hf0
  have L43 : ∀ (n : Nat) (t18 : Int32) (h19 : aH), whileL n (fun q : Int32 × aH => f_X0_fillWorld_b43 v0 v1 v2 v3 t1 t15 q.1 q.2) (t18, h19) = some y17 → gW p l e (rmO 2 0 0) s m args below meth c (MQ below (eQ D cA B Hb out none) args s 0 0 (fun q => B ≤ q)) D cA B Hb 11 h19 43 [(0, .ref v0), (1, .ref v1), (2, .int v2), (3, .int v3), (4, .int t1), (5, .int t15), (6, .int t18)] [] 0 0 := by
    intro n
    induction n with
    | zero => intro t18 h19 hz; cases hz
    | succ n ih43 =>
      intro t18 h19 hz
      obtain ⟨x43, hf1, hk43⟩ := wl hz
      replace hf1 : f_X0_fillWorld_b43 v0 v1 v2 v3 t1 t15 t18 h19 = some x43 := hf1
      unfold f_X0_fillWorld_b43 at hf1
      have J132 : ∀ (h20 : aH) (t21 : Int32) (t22 : Int32) (t23 : Int32) (t24 : Int32) (t25 : Int32), f_X0_fillWorld_j132 h20 v0 v1 v2 v3 t1 t15 t21 t22 t23 t24 t25 = some x43 → gW p l e (rmO 2 0 0) s m args below meth c (MQ below (eQ D cA B Hb out none) args s 0 0 (fun q => B ≤ q)) D cA B Hb 11 h20 132 [(0, .ref v0), (1, .ref v1), (2, .int v2), (3, .int v3), (4, .int t1), (5, .int t15), (6, .int t21), (7, .int t22), (8, .int t23), (9, .int t24), (10, .int t25)] [] 0 0 := by
        intro h20 t21 t22 t23 t24 t25 hf1
        unfold f_X0_fillWorld_j132 at hf1
        refine r_aload_n C dX0_fillWorld_132 rfl ?_
        refine r_iload_n C dX0_fillWorld_133 rfl ?_
        refine r_iload C dX0_fillWorld_134 rfl ?_
        refine r_iload_n C dX0_fillWorld_136 rfl ?_
        refine r_iload C dX0_fillWorld_137 rfl ?_
        refine r_iload C dX0_fillWorld_139 rfl ?_
        refine r_iconst (v := 5) C dX0_fillWorld_141 (by decide) ?_
        refine r_ishl C dX0_fillWorld_142 ?_
        refine r_ior C dX0_fillWorld_143 ?_
        refine r_iload C dX0_fillWorld_144 rfl ?_
        refine r_bipush (v := 10) C dX0_fillWorld_146 (by decide) ?_
        refine r_ishl C dX0_fillWorld_148 ?_
        refine r_ior C dX0_fillWorld_149 ?_
        refine r_iload C dX0_fillWorld_150 rfl ?_
        refine r_bipush (v := 15) C dX0_fillWorld_152 (by decide) ?_
        refine r_ishl C dX0_fillWorld_154 ?_
        refine r_ior C dX0_fillWorld_155 ?_
        obtain ⟨u27, e26, hf1⟩ := ob hf1
        obtain ⟨h28, e29, hf1⟩ := ob hf1
        refine r_cV (ci := 1) (rest := []) (st2 := []) C (s_X1_keepAnswers e29) mk_X1_keepAnswers rfl (ck_k e26) (by decide) im_X1_keepAnswers sl_X1_keepAnswers lk_X0_103 rfl rfl rfl dX0_fillWorld_156 (Nat.le_of_ble_eq_true rfl) ⟨Nat.le_of_ble_eq_true rfl, Nat.le_of_ble_eq_true rfl⟩ ⟨Nat.le_of_ble_eq_true rfl, Nat.le_of_ble_eq_true rfl⟩ ?_
        obtain ⟨t30, e31, hf1⟩ := ob hf1
        refine r_iinc (lv' := [(6, .int t30), (0, .ref v0), (1, .ref v1), (2, .int v2), (3, .int v3), (4, .int t1), (5, .int t15), (7, .int t22), (8, .int t23), (9, .int t24), (10, .int t25)]) C dX0_fillWorld_159 rfl e31 (by decide) rfl ?_
        refine r_goto (tgt := 43) C dX0_fillWorld_162 (by decide) ?_
        obtain rfl := so hf1
        refine r_subk [1, 2, 3, 4, 5, 6, 0] (lv' := [(0, .ref v0), (1, .ref v1), (2, .int v2), (3, .int v3), (4, .int t1), (5, .int t15), (6, .int t30)]) rfl ?_
        exact ih43 t30 h28 hk43
      have J130 : ∀ (h32 : aH) (t33 : Int32) (t34 : Int32) (t35 : Int32) (t36 : Int32) (t37 : Int32), f_X0_fillWorld_j130 h32 v0 v1 v2 v3 t1 t15 t33 t34 t35 t36 t37 = some x43 → gW p l e (rmO 2 0 0) s m args below meth c (MQ below (eQ D cA B Hb out none) args s 0 0 (fun q => B ≤ q)) D cA B Hb 11 h32 130 [(0, .ref v0), (1, .ref v1), (2, .int v2), (3, .int v3), (4, .int t1), (5, .int t15), (6, .int t33), (7, .int t34), (8, .int t35), (9, .int t36)] [.int t37] 0 0 := by
        intro h32 t33 t34 t35 t36 t37 hf1
        unfold f_X0_fillWorld_j130 at hf1
        refine r_istore (lv' := [(10, .int t37), (0, .ref v0), (1, .ref v1), (2, .int v2), (3, .int v3), (4, .int t1), (5, .int t15), (6, .int t33), (7, .int t34), (8, .int t35), (9, .int t36)]) C dX0_fillWorld_130 (by decide) rfl rfl ?_
        refine r_subk [1, 2, 3, 4, 5, 6, 7, 8, 9, 10, 0] (lv' := [(0, .ref v0), (1, .ref v1), (2, .int v2), (3, .int v3), (4, .int t1), (5, .int t15), (6, .int t33), (7, .int t34), (8, .int t35), (9, .int t36), (10, .int t37)]) rfl ?_
        exact J132 h32 t33 t34 t35 t36 t37 hf1
      refine r_iload C dX0_fillWorld_43 rfl ?_
      refine r_aload_n C dX0_fillWorld_45 rfl ?_
      obtain ⟨t38, e39, hf1⟩ := ob hf1
      refine r_getI C fk_X0_65 rfl dX0_fillWorld_46 e39 ?_
      refine r_icmp_ge (tgt := 165) C dX0_fillWorld_49 (by decide) (fun c40 => ?_) (fun c40 => ?_)
      · rw [if_pos c40] at hf1
        obtain rfl := so hf1
        obtain rfl := so (show some h19 = some y17 from hk43)
        obtain rfl := so hf0
        exact r_vret C dX0_fillWorld_165
      · rw [if_neg c40] at hf1
        refine r_iconst (v := 2) C dX0_fillWorld_52 (by decide) ?_
        refine r_iload C dX0_fillWorld_53 rfl ?_
        refine r_imul C dX0_fillWorld_55 ?_
        obtain ⟨t41, e42, hf1⟩ := ob hf1
        refine r_istore (lv' := [(7, .int t41), (0, .ref v0), (1, .ref v1), (2, .int v2), (3, .int v3), (4, .int t1), (5, .int t15), (6, .int t18)]) C dX0_fillWorld_56 (by decide) e42 rfl ?_
        refine r_iload C dX0_fillWorld_58 rfl ?_
        refine r_aload_n C dX0_fillWorld_60 rfl ?_
        refine r_iload C dX0_fillWorld_61 rfl ?_
        obtain ⟨u44, e43, hf1⟩ := ob hf1
        obtain ⟨t45, e46, hf1⟩ := ob hf1
        refine r_cV (ci := 0) (rest := [.int t15]) (st2 := [.int t45, .int t15]) C (s_X0_otherThan e46) mk_X0_otherThan rfl (ck_k e43) (by decide) im_X0_otherThan sl_X0_otherThan lk_X0_90 rfl rfl rfl dX0_fillWorld_63 (Nat.le_of_ble_eq_true rfl) ⟨Nat.le_of_ble_eq_true rfl, Nat.le_of_ble_eq_true rfl⟩ ⟨Nat.le_of_ble_eq_true rfl, Nat.le_of_ble_eq_true rfl⟩ ?_
        refine r_iand C dX0_fillWorld_66 ?_
        refine r_iload C dX0_fillWorld_67 rfl ?_
        obtain ⟨t47, e48, hf1⟩ := ob hf1
        refine r_cS (rest := []) (st2 := [.int t47]) C (s_X0_firstOr e48) mk_X0_firstOr sm_X0_firstOr lk_X0_94 rfl rfl rfl dX0_fillWorld_69 (Nat.le_of_ble_eq_true rfl) ⟨Nat.le_of_ble_eq_true rfl, Nat.le_of_ble_eq_true rfl⟩ ⟨Nat.le_of_ble_eq_true rfl, Nat.le_of_ble_eq_true rfl⟩ ?_
        refine r_istore (lv' := [(8, .int t47), (7, .int t41), (0, .ref v0), (1, .ref v1), (2, .int v2), (3, .int v3), (4, .int t1), (5, .int t15), (6, .int t18)]) C dX0_fillWorld_72 (by decide) rfl rfl ?_
        refine r_iload C dX0_fillWorld_74 rfl ?_
        refine r_istore (lv' := [(9, .int t47), (8, .int t47), (7, .int t41), (0, .ref v0), (1, .ref v1), (2, .int v2), (3, .int v3), (4, .int t1), (5, .int t15), (6, .int t18)]) C dX0_fillWorld_76 (by decide) rfl rfl ?_
        refine r_iload C dX0_fillWorld_78 rfl ?_
        refine r_istore (lv' := [(10, .int t47), (9, .int t47), (8, .int t47), (7, .int t41), (0, .ref v0), (1, .ref v1), (2, .int v2), (3, .int v3), (4, .int t1), (5, .int t15), (6, .int t18)]) C dX0_fillWorld_80 (by decide) rfl rfl ?_
        refine r_aload_n C dX0_fillWorld_82 rfl ?_
        obtain ⟨t49, e50, hf1⟩ := ob hf1
        refine r_getR C fk_X0_97 rfl dX0_fillWorld_83 e50 ?_
        refine r_iload_n C dX0_fillWorld_86 rfl ?_
        obtain ⟨t51, e52, hf1⟩ := ob hf1
        refine r_ldI C dX0_fillWorld_87 e52 ?_
        refine r_iload C dX0_fillWorld_88 rfl ?_
        refine r_ishr C dX0_fillWorld_90 ?_
        refine r_iconst (v := 1) C dX0_fillWorld_91 (by decide) ?_
        refine r_iand C dX0_fillWorld_92 ?_
        refine r_ifne (tgt := 132) C dX0_fillWorld_93 (by decide) (fun c53 => ?_) (fun c53 => ?_)
        · rw [if_neg c53] at hf1
          refine r_subk [4, 5, 6, 7, 8, 9, 10, 3, 2, 1, 0] (lv' := [(0, .ref v0), (1, .ref v1), (2, .int v2), (3, .int v3), (4, .int t1), (5, .int t15), (6, .int t18), (7, .int t41), (8, .int t47), (9, .int t47), (10, .int t47)]) rfl ?_
          exact J132 h19 t18 t41 t47 t47 t47 hf1
        · rw [if_pos c53] at hf1
          refine r_iload C dX0_fillWorld_96 rfl ?_
          refine r_aload_n C dX0_fillWorld_98 rfl ?_
          refine r_iload C dX0_fillWorld_99 rfl ?_
          refine r_iload C dX0_fillWorld_101 rfl ?_
          obtain ⟨u55, e54, hf1⟩ := ob hf1
          obtain ⟨t56, e57, hf1⟩ := ob hf1
          refine r_cV (ci := 0) (rest := [.int t15]) (st2 := [.int t56, .int t15]) C (s_X0_honestTo e57) mk_X0_honestTo rfl (ck_k e54) (by decide) im_X0_honestTo sl_X0_honestTo lk_X0_100 rfl rfl rfl dX0_fillWorld_103 (Nat.le_of_ble_eq_true rfl) ⟨Nat.le_of_ble_eq_true rfl, Nat.le_of_ble_eq_true rfl⟩ ⟨Nat.le_of_ble_eq_true rfl, Nat.le_of_ble_eq_true rfl⟩ ?_
          refine r_iand C dX0_fillWorld_106 ?_
          refine r_iload C dX0_fillWorld_107 rfl ?_
          obtain ⟨t58, e59, hf1⟩ := ob hf1
          refine r_cS (rest := []) (st2 := [.int t58]) C (s_X0_firstOr e59) mk_X0_firstOr sm_X0_firstOr lk_X0_94 rfl rfl rfl dX0_fillWorld_109 (Nat.le_of_ble_eq_true rfl) ⟨Nat.le_of_ble_eq_true rfl, Nat.le_of_ble_eq_true rfl⟩ ⟨Nat.le_of_ble_eq_true rfl, Nat.le_of_ble_eq_true rfl⟩ ?_
          refine r_istore (lv' := [(9, .int t58), (10, .int t47), (8, .int t47), (7, .int t41), (0, .ref v0), (1, .ref v1), (2, .int v2), (3, .int v3), (4, .int t1), (5, .int t15), (6, .int t18)]) C dX0_fillWorld_112 (by decide) rfl rfl ?_
          refine r_iload C dX0_fillWorld_114 rfl ?_
          refine r_iload C dX0_fillWorld_116 rfl ?_
          refine r_icmp_ne (tgt := 126) C dX0_fillWorld_118 (by decide) (fun c60 => ?_) (fun c60 => ?_)
          · rw [if_neg c60] at hf1
            refine r_iload C dX0_fillWorld_126 rfl ?_
            refine r_iconst (v := 1) C dX0_fillWorld_128 (by decide) ?_
            refine r_ixor C dX0_fillWorld_129 ?_
            refine r_subk [4, 5, 6, 7, 8, 9, 10, 3, 2, 0] (lv' := [(0, .ref v0), (1, .ref v1), (2, .int v2), (3, .int v3), (4, .int t1), (5, .int t15), (6, .int t18), (7, .int t41), (8, .int t47), (9, .int t58)]) rfl ?_
            exact J130 h19 t18 t41 t47 t58 (t58 ^^^ (1 : Int32)) hf1
          · rw [if_pos c60] at hf1
            refine r_iload C dX0_fillWorld_121 rfl ?_
            refine r_goto (tgt := 130) C dX0_fillWorld_123 (by decide) ?_
            refine r_subk [4, 5, 6, 7, 8, 9, 10, 3, 2, 0] (lv' := [(0, .ref v0), (1, .ref v1), (2, .int v2), (3, .int v3), (4, .int t1), (5, .int t15), (6, .int t18), (7, .int t41), (8, .int t47), (9, .int t58)]) rfl ?_
            exact J130 h19 t18 t41 t47 t58 t41 hf1
  refine r_subk [3, 4, 5, 6, 2, 1, 0] (lv' := [(0, .ref v0), (1, .ref v1), (2, .int v2), (3, .int v3), (4, .int t1), (5, .int t15), (6, .int (0 : Int32))]) rfl ?_
  exact L43 wN (0 : Int32) h hl43
def f_X0_fillAnswers_j46 (h : aH) (v0 : Nat) (v1 : Nat) (v2 : Int32) (v3 : Int32) : Option ((Int32 × aH) ⊕ (aH)) := (some (v3 + (1 : Int32))).bind fun t4 => some (.inl (t4, h))
def f_X0_fillAnswers_b23 (v0 : Nat) (v1 : Nat) (v2 : Int32) (v3 : Int32) (h : aH) : Option ((Int32 × aH) ⊕ (aH)) := (gI h 1 v1 14).bind fun t5 => if t5 ≤ v3 then some (.inr h) else (ck h 1 v1).bind fun _ => (f_X1_canBe h v1 v3).bind fun t6 => if t6 = 0 then f_X0_fillAnswers_j46 h v0 v1 v2 v3 else (ck h 0 v0).bind fun _ => (f_X0_fillWorld h v0 v1 v2 v3).bind fun h7 => f_X0_fillAnswers_j46 h7 v0 v1 v2 v3
def f_X0_fillAnswers_l23 (v0 : Nat) (v1 : Nat) (v2 : Int32) (v3 : Int32) (h : aH) : Option (aH) := whileL wN (fun q : Int32 × aH => f_X0_fillAnswers_b23 v0 v1 v2 q.1 q.2) (v3, h)
def f_X0_fillAnswers_b7 (v0 : Nat) (v1 : Nat) (v2 : Int32) (h : aH) : Option ((Int32 × aH) ⊕ (aH)) := (gI h 1 v1 17).bind fun t2 => if t2 ≤ v2 then some (.inr h) else (ck h 0 v0).bind fun _ => (f_X0_gatherKnown h v0 v1 v2).bind fun h3 => (f_X0_fillAnswers_l23 v0 v1 v2 (0 : Int32) h3).bind fun h8 => (some (v2 + (1 : Int32))).bind fun t9 => some (.inl (t9, h8))
def f_X0_fillAnswers_l7 (v0 : Nat) (v1 : Nat) (v2 : Int32) (h : aH) : Option (aH) := whileL wN (fun q : Int32 × aH => f_X0_fillAnswers_b7 v0 v1 q.1 q.2) (v2, h)
def f_X0_fillAnswers (h : aH) (v0 : Nat) (v1 : Nat) : Option (aH) := (ck h 0 v0).bind fun _ => (f_X0_relateSayings h v0 v1).bind fun h1 => (f_X0_fillAnswers_l7 v0 v1 (0 : Int32) h1).bind fun h10 => some h10
theorem s_X0_fillAnswers {h : aH} {v0 : Nat} {v1 : Nat} {out : aH} (hf0 : f_X0_fillAnswers h v0 v1 = some out) : EV 3 yX0_fillAnswers cX0_fillAnswers 4 none h [.ref v0, .ref v1] none out 0 0 := by
  refine EV.of (own := RX0) (lv0 := [(0, .ref v0), (1, .ref v1)]) (by decide +kernel) rfl rfl (Nat.le_of_ble_eq_true rfl) ?_
  intro p l e s m args below meth c D cA B Hb C hin
  unfold f_X0_fillAnswers at hf0
  refine r_aload_n C dX0_fillAnswers_0 rfl ?_
  refine r_aload_n C dX0_fillAnswers_1 rfl ?_
  obtain ⟨u2, e1, hf0⟩ := ob hf0
  obtain ⟨h3, e4, hf0⟩ := ob hf0
  refine r_cV (ci := 0) (rest := []) (st2 := []) C (s_X0_relateSayings e4) mk_X0_relateSayings rfl (ck_k e1) (by decide) im_X0_relateSayings sl_X0_relateSayings lk_X0_28 rfl rfl rfl dX0_fillAnswers_2 (Nat.le_of_ble_eq_true rfl) ⟨Nat.le_of_ble_eq_true rfl, Nat.le_of_ble_eq_true rfl⟩ ⟨Nat.le_of_ble_eq_true rfl, Nat.le_of_ble_eq_true rfl⟩ ?_
  refine r_iconst (v := 0) C dX0_fillAnswers_5 (by decide) ?_
  refine r_istore_n (lv' := [(2, .int (0 : Int32)), (0, .ref v0), (1, .ref v1)]) C dX0_fillAnswers_6 (by decide) rfl rfl ?_
  obtain ⟨y5, hl7, hf0⟩ := ob hf0
  have L7 : ∀ (n : Nat) (t6 : Int32) (h7 : aH), whileL n (fun q : Int32 × aH => f_X0_fillAnswers_b7 v0 v1 q.1 q.2) (t6, h7) = some y5 → gW p l e (rmO 3 0 0) s m args below meth c (MQ below (eQ D cA B Hb out none) args s 0 0 (fun q => B ≤ q)) D cA B Hb 4 h7 7 [(0, .ref v0), (1, .ref v1), (2, .int t6)] [] 0 0 := by
    intro n
    induction n with
    | zero => intro t6 h7 hz; cases hz
    | succ n ih7 =>
      intro t6 h7 hz
      obtain ⟨x7, hf1, hk7⟩ := wl hz
      replace hf1 : f_X0_fillAnswers_b7 v0 v1 t6 h7 = some x7 := hf1
      unfold f_X0_fillAnswers_b7 at hf1
      refine r_iload_n C dX0_fillAnswers_7 rfl ?_
      refine r_aload_n C dX0_fillAnswers_8 rfl ?_
      obtain ⟨t8, e9, hf1⟩ := ob hf1
      refine r_getI C fk_X0_32 rfl dX0_fillAnswers_9 e9 ?_
      refine r_icmp_ge (tgt := 58) C dX0_fillAnswers_12 (by decide) (fun c10 => ?_) (fun c10 => ?_)
      · rw [if_pos c10] at hf1
        obtain rfl := so hf1
        obtain rfl := so (show some h7 = some y5 from hk7)
        obtain rfl := so hf0
        exact r_vret C dX0_fillAnswers_58
      · rw [if_neg c10] at hf1
        refine r_aload_n C dX0_fillAnswers_15 rfl ?_
        refine r_aload_n C dX0_fillAnswers_16 rfl ?_
        refine r_iload_n C dX0_fillAnswers_17 rfl ?_
        obtain ⟨u12, e11, hf1⟩ := ob hf1
        obtain ⟨h13, e14, hf1⟩ := ob hf1
        refine r_cV (ci := 0) (rest := []) (st2 := []) C (s_X0_gatherKnown e14) mk_X0_gatherKnown rfl (ck_k e11) (by decide) im_X0_gatherKnown sl_X0_gatherKnown lk_X0_37 rfl rfl rfl dX0_fillAnswers_18 (Nat.le_of_ble_eq_true rfl) ⟨Nat.le_of_ble_eq_true rfl, Nat.le_of_ble_eq_true rfl⟩ ⟨Nat.le_of_ble_eq_true rfl, Nat.le_of_ble_eq_true rfl⟩ ?_
        refine r_iconst (v := 0) C dX0_fillAnswers_21 (by decide) ?_
        refine r_istore_n (lv' := [(3, .int (0 : Int32)), (0, .ref v0), (1, .ref v1), (2, .int t6)]) C dX0_fillAnswers_22 (by decide) rfl rfl ?_
        obtain ⟨y15, hl23, hf1⟩ := ob hf1
        have L23 : ∀ (n : Nat) (t16 : Int32) (h17 : aH), whileL n (fun q : Int32 × aH => f_X0_fillAnswers_b23 v0 v1 t6 q.1 q.2) (t16, h17) = some y15 → gW p l e (rmO 3 0 0) s m args below meth c (MQ below (eQ D cA B Hb out none) args s 0 0 (fun q => B ≤ q)) D cA B Hb 4 h17 23 [(0, .ref v0), (1, .ref v1), (2, .int t6), (3, .int t16)] [] 0 0 := by
          intro n
          induction n with
          | zero => intro t16 h17 hz; cases hz
          | succ n ih23 =>
            intro t16 h17 hz
            obtain ⟨x23, hf2, hk23⟩ := wl hz
            replace hf2 : f_X0_fillAnswers_b23 v0 v1 t6 t16 h17 = some x23 := hf2
            unfold f_X0_fillAnswers_b23 at hf2
            have J46 : ∀ (h18 : aH) (t19 : Int32), f_X0_fillAnswers_j46 h18 v0 v1 t6 t19 = some x23 → gW p l e (rmO 3 0 0) s m args below meth c (MQ below (eQ D cA B Hb out none) args s 0 0 (fun q => B ≤ q)) D cA B Hb 4 h18 46 [(0, .ref v0), (1, .ref v1), (2, .int t6), (3, .int t19)] [] 0 0 := by
              intro h18 t19 hf2
              unfold f_X0_fillAnswers_j46 at hf2
              obtain ⟨t20, e21, hf2⟩ := ob hf2
              refine r_iinc (lv' := [(3, .int t20), (0, .ref v0), (1, .ref v1), (2, .int t6)]) C dX0_fillAnswers_46 rfl e21 (by decide) rfl ?_
              refine r_goto (tgt := 23) C dX0_fillAnswers_49 (by decide) ?_
              obtain rfl := so hf2
              refine r_subk [1, 2, 3, 0] (lv' := [(0, .ref v0), (1, .ref v1), (2, .int t6), (3, .int t20)]) rfl ?_
              exact ih23 t20 h18 hk23
            refine r_iload_n C dX0_fillAnswers_23 rfl ?_
            refine r_aload_n C dX0_fillAnswers_24 rfl ?_
            obtain ⟨t22, e23, hf2⟩ := ob hf2
            refine r_getI C fk_X0_41 rfl dX0_fillAnswers_25 e23 ?_
            refine r_icmp_ge (tgt := 52) C dX0_fillAnswers_28 (by decide) (fun c24 => ?_) (fun c24 => ?_)
            · rw [if_pos c24] at hf2
              obtain rfl := so hf2
              obtain rfl := so (show some h17 = some y15 from hk23)
              obtain ⟨t25, e26, hf1⟩ := ob hf1
              refine r_iinc (lv' := [(2, .int t25), (0, .ref v0), (1, .ref v1), (3, .int t16)]) C dX0_fillAnswers_52 rfl e26 (by decide) rfl ?_
              refine r_goto (tgt := 7) C dX0_fillAnswers_55 (by decide) ?_
              obtain rfl := so hf1
              refine r_subk [1, 2, 0] (lv' := [(0, .ref v0), (1, .ref v1), (2, .int t25)]) rfl ?_
              exact ih7 t25 h17 hk7
            · rw [if_neg c24] at hf2
              refine r_aload_n C dX0_fillAnswers_31 rfl ?_
              refine r_iload_n C dX0_fillAnswers_32 rfl ?_
              obtain ⟨u28, e27, hf2⟩ := ob hf2
              obtain ⟨t29, e30, hf2⟩ := ob hf2
              refine r_cV (ci := 1) (rest := []) (st2 := [.int t29]) C (s_X1_canBe e30) mk_X1_canBe rfl (ck_k e27) (by decide) im_X1_canBe sl_X1_canBe lk_X0_44 rfl rfl rfl dX0_fillAnswers_33 (Nat.le_of_ble_eq_true rfl) ⟨Nat.le_of_ble_eq_true rfl, Nat.le_of_ble_eq_true rfl⟩ ⟨Nat.le_of_ble_eq_true rfl, Nat.le_of_ble_eq_true rfl⟩ ?_
              refine r_ifeq (tgt := 46) C dX0_fillAnswers_36 (by decide) (fun c31 => ?_) (fun c31 => ?_)
              · rw [if_pos c31] at hf2
                exact J46 h17 t16 hf2
              · rw [if_neg c31] at hf2
                refine r_aload_n C dX0_fillAnswers_39 rfl ?_
                refine r_aload_n C dX0_fillAnswers_40 rfl ?_
                refine r_iload_n C dX0_fillAnswers_41 rfl ?_
                refine r_iload_n C dX0_fillAnswers_42 rfl ?_
                obtain ⟨u33, e32, hf2⟩ := ob hf2
                obtain ⟨h34, e35, hf2⟩ := ob hf2
                refine r_cV (ci := 0) (rest := []) (st2 := []) C (s_X0_fillWorld e35) mk_X0_fillWorld rfl (ck_k e32) (by decide) im_X0_fillWorld sl_X0_fillWorld lk_X0_48 rfl rfl rfl dX0_fillAnswers_43 (Nat.le_of_ble_eq_true rfl) ⟨Nat.le_of_ble_eq_true rfl, Nat.le_of_ble_eq_true rfl⟩ ⟨Nat.le_of_ble_eq_true rfl, Nat.le_of_ble_eq_true rfl⟩ ?_
                exact J46 h34 t16 hf2
        refine r_subk [1, 2, 3, 0] (lv' := [(0, .ref v0), (1, .ref v1), (2, .int t6), (3, .int (0 : Int32))]) rfl ?_
        exact L23 wN (0 : Int32) h13 hl23
  refine r_subk [1, 2, 0] (lv' := [(0, .ref v0), (1, .ref v1), (2, .int (0 : Int32))]) rfl ?_
  exact L7 wN (0 : Int32) h3 hl7
def f_X7_init (h : aH) (v0 : Nat) : Option (aH) := bd2 (nwO h 21 44) fun t1 h2 => (pR h2 7 v0 0 t1).bind fun h3 => bd2 (nwO h3 20 44) fun t4 h5 => (pR h5 7 v0 1 t4).bind fun h6 => bd2 (nwO h6 20 44) fun t7 h8 => (pR h8 7 v0 2 t7).bind fun h9 => (pI h9 7 v0 3 (0 : Int32)).bind fun h10 => some h10
theorem s_X7_init {h : aH} {v0 : Nat} {out : aH} (hf0 : f_X7_init h v0 = some out) : EV 1 yX7_init cX7_init 1 none h [.ref v0] none out 3 132 := by
  refine EV.of (own := RX7) (lv0 := [(0, .ref v0)]) (by decide +kernel) rfl rfl (Nat.le_of_ble_eq_true rfl) ?_
  intro p l e s m args below meth c D cA B Hb C hin
  unfold f_X7_init at hf0
  refine r_aload_n C dX7_init_0 rfl ?_
  refine r_obj C lk_X7_3 dX7_init_1 ⟨Nat.le_of_ble_eq_true rfl, Nat.le_of_ble_eq_true rfl⟩ (Nat.le_of_ble_eq_true rfl) ?_
  refine r_aload_n C dX7_init_4 rfl ?_
  refine r_bipush (v := 44) C dX7_init_5 (by decide) ?_
  obtain ⟨t1, h2, e3, hf0⟩ := ob2 hf0
  refine r_newJE C dX7_init_7 (by decide) (by decide) (by decide) ⟨Nat.le_of_ble_eq_true rfl, Nat.le_of_ble_eq_true rfl⟩ e3 ?_
  obtain ⟨h4, e5, hf0⟩ := ob hf0
  refine r_putFR C fk_X7_9 ⟨_, _, rfl⟩ (Or.inr ⟨_, rfl⟩) hin dX7_init_9 e5 ?_
  refine r_aload_n C dX7_init_12 rfl ?_
  refine r_bipush (v := 44) C dX7_init_13 (by decide) ?_
  obtain ⟨t6, h7, e8, hf0⟩ := ob2 hf0
  refine r_newIE C dX7_init_15 (by decide) (by decide) (by decide) ⟨Nat.le_of_ble_eq_true rfl, Nat.le_of_ble_eq_true rfl⟩ e8 ?_
  obtain ⟨h9, e10, hf0⟩ := ob hf0
  refine r_putFR C fk_X7_15 ⟨_, _, rfl⟩ (Or.inr ⟨_, rfl⟩) hin dX7_init_17 e10 ?_
  refine r_aload_n C dX7_init_20 rfl ?_
  refine r_bipush (v := 44) C dX7_init_21 (by decide) ?_
  obtain ⟨t11, h12, e13, hf0⟩ := ob2 hf0
  refine r_newIE C dX7_init_23 (by decide) (by decide) (by decide) ⟨Nat.le_of_ble_eq_true rfl, Nat.le_of_ble_eq_true rfl⟩ e13 ?_
  obtain ⟨h14, e15, hf0⟩ := ob hf0
  refine r_putFR C fk_X7_19 ⟨_, _, rfl⟩ (Or.inr ⟨_, rfl⟩) hin dX7_init_25 e15 ?_
  refine r_aload_n C dX7_init_28 rfl ?_
  refine r_iconst (v := 0) C dX7_init_29 (by decide) ?_
  obtain ⟨h16, e17, hf0⟩ := ob hf0
  refine r_putI C fk_X7_22 dX7_init_30 e17 ?_
  obtain rfl := so hf0
  exact r_vret C dX7_init_33
def f_X1_clear (h : aH) (v0 : Nat) : Option (aH) := (gR h 1 v0 0).bind fun t1 => (pI h 7 t1 3 (0 : Int32)).bind fun h2 => (pI h2 1 v0 12 (0 : Int32)).bind fun h3 => (pI h3 1 v0 13 (0 : Int32)).bind fun h4 => (pI h4 1 v0 16 (0 : Int32)).bind fun h5 => (pI h5 1 v0 17 (0 : Int32)).bind fun h6 => (pI h6 1 v0 14 (1 : Int32)).bind fun h7 => (pI h7 1 v0 15 (1 : Int32)).bind fun h8 => (gR h8 1 v0 5).bind fun t9 => (sI h8 t9 (0 : Int32) (1 : Int32)).bind fun h10 => (gR h10 1 v0 6).bind fun t11 => (sI h10 t11 (0 : Int32) (0 : Int32)).bind fun h12 => (pI h12 1 v0 18 (65535 : Int32)).bind fun h13 => (gR h13 1 v0 8).bind fun t14 => (f_J7_fill_53178 h13 t14 (0 : Int32)).bind fun h15 => (gR h15 1 v0 9).bind fun t16 => (f_J7_fill_53178 h15 t16 (0 : Int32)).bind fun h17 => (gR h17 1 v0 10).bind fun t18 => (f_J7_fill_53178 h17 t18 (0 : Int32)).bind fun h19 => some h19
theorem s_X1_clear {h : aH} {v0 : Nat} {out : aH} (hf0 : f_X1_clear h v0 = some out) : EV 1 yX1_clear cX1_clear 1 none h [.ref v0] none out 0 0 := by
  refine EV.of (own := RX1) (lv0 := [(0, .ref v0)]) (by decide +kernel) rfl rfl (Nat.le_of_ble_eq_true rfl) ?_
  intro p l e s m args below meth c D cA B Hb C hin
  unfold f_X1_clear at hf0
  refine r_aload_n C dX1_clear_0 rfl ?_
  obtain ⟨t1, e2, hf0⟩ := ob hf0
  refine r_getR C fk_X1_12 rfl dX1_clear_1 e2 ?_
  refine r_iconst (v := 0) C dX1_clear_4 (by decide) ?_
  obtain ⟨h3, e4, hf0⟩ := ob hf0
  refine r_putI C fk_X1_55 dX1_clear_5 e4 ?_
  refine r_aload_n C dX1_clear_8 rfl ?_
  refine r_iconst (v := 0) C dX1_clear_9 (by decide) ?_
  obtain ⟨h5, e6, hf0⟩ := ob hf0
  refine r_putI C fk_X1_59 dX1_clear_10 e6 ?_
  refine r_aload_n C dX1_clear_13 rfl ?_
  refine r_iconst (v := 0) C dX1_clear_14 (by decide) ?_
  obtain ⟨h7, e8, hf0⟩ := ob hf0
  refine r_putI C fk_X1_62 dX1_clear_15 e8 ?_
  refine r_aload_n C dX1_clear_18 rfl ?_
  refine r_iconst (v := 0) C dX1_clear_19 (by decide) ?_
  obtain ⟨h9, e10, hf0⟩ := ob hf0
  refine r_putI C fk_X1_65 dX1_clear_20 e10 ?_
  refine r_aload_n C dX1_clear_23 rfl ?_
  refine r_iconst (v := 0) C dX1_clear_24 (by decide) ?_
  obtain ⟨h11, e12, hf0⟩ := ob hf0
  refine r_putI C fk_X1_68 dX1_clear_25 e12 ?_
  refine r_aload_n C dX1_clear_28 rfl ?_
  refine r_iconst (v := 1) C dX1_clear_29 (by decide) ?_
  obtain ⟨h13, e14, hf0⟩ := ob hf0
  refine r_putI C fk_X1_71 dX1_clear_30 e14 ?_
  refine r_aload_n C dX1_clear_33 rfl ?_
  refine r_iconst (v := 1) C dX1_clear_34 (by decide) ?_
  obtain ⟨h15, e16, hf0⟩ := ob hf0
  refine r_putI C fk_X1_74 dX1_clear_35 e16 ?_
  refine r_aload_n C dX1_clear_38 rfl ?_
  obtain ⟨t17, e18, hf0⟩ := ob hf0
  refine r_getR C fk_X1_31 rfl dX1_clear_39 e18 ?_
  refine r_iconst (v := 0) C dX1_clear_42 (by decide) ?_
  refine r_iconst (v := 1) C dX1_clear_43 (by decide) ?_
  obtain ⟨h19, e20, hf0⟩ := ob hf0
  refine r_stI C dX1_clear_44 e20 ?_
  refine r_aload_n C dX1_clear_45 rfl ?_
  obtain ⟨t21, e22, hf0⟩ := ob hf0
  refine r_getR C fk_X1_34 rfl dX1_clear_46 e22 ?_
  refine r_iconst (v := 0) C dX1_clear_49 (by decide) ?_
  refine r_iconst (v := 0) C dX1_clear_50 (by decide) ?_
  obtain ⟨h23, e24, hf0⟩ := ob hf0
  refine r_stI C dX1_clear_51 e24 ?_
  refine r_aload_n C dX1_clear_52 rfl ?_
  refine r_ldc (v := 65535) C dX1_clear_53 cn_X1_77 ?_
  obtain ⟨h25, e26, hf0⟩ := ob hf0
  refine r_putI C fk_X1_78 dX1_clear_55 e26 ?_
  refine r_aload_n C dX1_clear_58 rfl ?_
  obtain ⟨t27, e28, hf0⟩ := ob hf0
  refine r_getR C fk_X1_40 rfl dX1_clear_59 e28 ?_
  refine r_iconst (v := 0) C dX1_clear_62 (by decide) ?_
  obtain ⟨h29, e30, hf0⟩ := ob hf0
  refine r_cS (rest := []) (st2 := []) C (s_J7_fill_53178 e30) mk_J7_fill_53178 sm_J7_fill_53178 lk_X1_81 rfl rfl rfl dX1_clear_63 (Nat.le_of_ble_eq_true rfl) ⟨Nat.le_of_ble_eq_true rfl, Nat.le_of_ble_eq_true rfl⟩ ⟨Nat.le_of_ble_eq_true rfl, Nat.le_of_ble_eq_true rfl⟩ ?_
  refine r_aload_n C dX1_clear_66 rfl ?_
  obtain ⟨t31, e32, hf0⟩ := ob hf0
  refine r_getR C fk_X1_43 rfl dX1_clear_67 e32 ?_
  refine r_iconst (v := 0) C dX1_clear_70 (by decide) ?_
  obtain ⟨h33, e34, hf0⟩ := ob hf0
  refine r_cS (rest := []) (st2 := []) C (s_J7_fill_53178 e34) mk_J7_fill_53178 sm_J7_fill_53178 lk_X1_81 rfl rfl rfl dX1_clear_71 (Nat.le_of_ble_eq_true rfl) ⟨Nat.le_of_ble_eq_true rfl, Nat.le_of_ble_eq_true rfl⟩ ⟨Nat.le_of_ble_eq_true rfl, Nat.le_of_ble_eq_true rfl⟩ ?_
  refine r_aload_n C dX1_clear_74 rfl ?_
  obtain ⟨t35, e36, hf0⟩ := ob hf0
  refine r_getR C fk_X1_46 rfl dX1_clear_75 e36 ?_
  refine r_iconst (v := 0) C dX1_clear_78 (by decide) ?_
  obtain ⟨h37, e38, hf0⟩ := ob hf0
  refine r_cS (rest := []) (st2 := []) C (s_J7_fill_53178 e38) mk_J7_fill_53178 sm_J7_fill_53178 lk_X1_81 rfl rfl rfl dX1_clear_79 (Nat.le_of_ble_eq_true rfl) ⟨Nat.le_of_ble_eq_true rfl, Nat.le_of_ble_eq_true rfl⟩ ⟨Nat.le_of_ble_eq_true rfl, Nat.le_of_ble_eq_true rfl⟩ ?_
  obtain rfl := so hf0
  exact r_vret C dX1_clear_82
def f_X1_init (h : aH) (v0 : Nat) : Option (aH) := bd2 (nwO h 7 4) fun t1 h2 => (f_X7_init h2 t1).bind fun h3 => (pR h3 1 v0 0 t1).bind fun h4 => bd2 (nwO h4 20 5) fun t5 h6 => (pR h6 1 v0 1 t5).bind fun h7 => bd2 (nwO h7 20 4) fun t8 h9 => (pR h9 1 v0 2 t8).bind fun h10 => bd2 (nwO h10 20 24) fun t11 h12 => (pR h12 1 v0 3 t11).bind fun h13 => bd2 (nwO h13 20 24) fun t14 h15 => (pR h15 1 v0 4 t14).bind fun h16 => bd2 (nwO h16 20 256) fun t17 h18 => (pR h18 1 v0 5 t17).bind fun h19 => bd2 (nwO h19 20 256) fun t20 h21 => (pR h21 1 v0 6 t20).bind fun h22 => bd2 (nwO h22 20 12) fun t23 h24 => (pR h24 1 v0 7 t23).bind fun h25 => bd2 (nwO h25 20 16) fun t26 h27 => (pR h27 1 v0 8 t26).bind fun h28 => bd2 (nwO h28 20 4) fun t29 h30 => (pR h30 1 v0 9 t29).bind fun h31 => bd2 (nwO h31 20 4) fun t32 h33 => (pR h33 1 v0 10 t32).bind fun h34 => bd2 (nwO h34 20 12288) fun t35 h36 => (pR h36 1 v0 11 t35).bind fun h37 => (ck h37 1 v0).bind fun _ => (f_X1_clear h37 v0).bind fun h38 => some h38
theorem s_X1_init {h : aH} {v0 : Nat} {out : aH} (hf0 : f_X1_init h v0 = some out) : EV 2 yX1_init cX1_init 1 none h [.ref v0] none out 15 13029 := by
  refine EV.of (own := RX1) (lv0 := [(0, .ref v0)]) (by decide +kernel) rfl rfl (Nat.le_of_ble_eq_true rfl) ?_
  intro p l e s m args below meth c D cA B Hb C hin
  unfold f_X1_init at hf0
  refine r_aload_n C dX1_init_0 rfl ?_
  refine r_obj C lk_X1_3 dX1_init_1 ⟨Nat.le_of_ble_eq_true rfl, Nat.le_of_ble_eq_true rfl⟩ (Nat.le_of_ble_eq_true rfl) ?_
  refine r_aload_n C dX1_init_4 rfl ?_
  obtain ⟨t1, h2, e3, hf0⟩ := ob2 hf0
  refine r_newE C nk_X1_9 dX1_init_5 ⟨Nat.le_of_ble_eq_true rfl, Nat.le_of_ble_eq_true rfl⟩ e3 ?_
  refine r_dup C dX1_init_8 rfl ?_
  obtain ⟨h4, e5, hf0⟩ := ob hf0
  refine r_callIN (rest := [.ref t1, .ref v0]) C (s_X7_init e5) mk_X7_init rfl im_X7_init ln_X1_11 rfl rfl dX1_init_9 (Nat.le_of_ble_eq_true rfl) ⟨Nat.le_of_ble_eq_true rfl, Nat.le_of_ble_eq_true rfl⟩ ⟨Nat.le_of_ble_eq_true rfl, Nat.le_of_ble_eq_true rfl⟩ ?_
  obtain ⟨h6, e7, hf0⟩ := ob hf0
  refine r_putFR C fk_X1_12 ⟨_, _, rfl⟩ (Or.inl ⟨_, rfl⟩) hin dX1_init_12 e7 ?_
  refine r_aload_n C dX1_init_15 rfl ?_
  refine r_iconst (v := 5) C dX1_init_16 (by decide) ?_
  obtain ⟨t8, h9, e10, hf0⟩ := ob2 hf0
  refine r_newIE C dX1_init_17 (by decide) (by decide) (by decide) ⟨Nat.le_of_ble_eq_true rfl, Nat.le_of_ble_eq_true rfl⟩ e10 ?_
  obtain ⟨h11, e12, hf0⟩ := ob hf0
  refine r_putFR C fk_X1_18 ⟨_, _, rfl⟩ (Or.inr ⟨_, rfl⟩) hin dX1_init_19 e12 ?_
  refine r_aload_n C dX1_init_22 rfl ?_
  refine r_iconst (v := 4) C dX1_init_23 (by decide) ?_
  obtain ⟨t13, h14, e15, hf0⟩ := ob2 hf0
  refine r_newIE C dX1_init_24 (by decide) (by decide) (by decide) ⟨Nat.le_of_ble_eq_true rfl, Nat.le_of_ble_eq_true rfl⟩ e15 ?_
  obtain ⟨h16, e17, hf0⟩ := ob hf0
  refine r_putFR C fk_X1_22 ⟨_, _, rfl⟩ (Or.inr ⟨_, rfl⟩) hin dX1_init_26 e17 ?_
  refine r_aload_n C dX1_init_29 rfl ?_
  refine r_bipush (v := 24) C dX1_init_30 (by decide) ?_
  obtain ⟨t18, h19, e20, hf0⟩ := ob2 hf0
  refine r_newIE C dX1_init_32 (by decide) (by decide) (by decide) ⟨Nat.le_of_ble_eq_true rfl, Nat.le_of_ble_eq_true rfl⟩ e20 ?_
  obtain ⟨h21, e22, hf0⟩ := ob hf0
  refine r_putFR C fk_X1_25 ⟨_, _, rfl⟩ (Or.inr ⟨_, rfl⟩) hin dX1_init_34 e22 ?_
  refine r_aload_n C dX1_init_37 rfl ?_
  refine r_bipush (v := 24) C dX1_init_38 (by decide) ?_
  obtain ⟨t23, h24, e25, hf0⟩ := ob2 hf0
  refine r_newIE C dX1_init_40 (by decide) (by decide) (by decide) ⟨Nat.le_of_ble_eq_true rfl, Nat.le_of_ble_eq_true rfl⟩ e25 ?_
  obtain ⟨h26, e27, hf0⟩ := ob hf0
  refine r_putFR C fk_X1_28 ⟨_, _, rfl⟩ (Or.inr ⟨_, rfl⟩) hin dX1_init_42 e27 ?_
  refine r_aload_n C dX1_init_45 rfl ?_
  refine r_sipush (v := 256) C dX1_init_46 (by decide) ?_
  obtain ⟨t28, h29, e30, hf0⟩ := ob2 hf0
  refine r_newIE C dX1_init_49 (by decide) (by decide) (by decide) ⟨Nat.le_of_ble_eq_true rfl, Nat.le_of_ble_eq_true rfl⟩ e30 ?_
  obtain ⟨h31, e32, hf0⟩ := ob hf0
  refine r_putFR C fk_X1_31 ⟨_, _, rfl⟩ (Or.inr ⟨_, rfl⟩) hin dX1_init_51 e32 ?_
  refine r_aload_n C dX1_init_54 rfl ?_
  refine r_sipush (v := 256) C dX1_init_55 (by decide) ?_
  obtain ⟨t33, h34, e35, hf0⟩ := ob2 hf0
  refine r_newIE C dX1_init_58 (by decide) (by decide) (by decide) ⟨Nat.le_of_ble_eq_true rfl, Nat.le_of_ble_eq_true rfl⟩ e35 ?_
  obtain ⟨h36, e37, hf0⟩ := ob hf0
  refine r_putFR C fk_X1_34 ⟨_, _, rfl⟩ (Or.inr ⟨_, rfl⟩) hin dX1_init_60 e37 ?_
  refine r_aload_n C dX1_init_63 rfl ?_
  refine r_bipush (v := 12) C dX1_init_64 (by decide) ?_
  obtain ⟨t38, h39, e40, hf0⟩ := ob2 hf0
  refine r_newIE C dX1_init_66 (by decide) (by decide) (by decide) ⟨Nat.le_of_ble_eq_true rfl, Nat.le_of_ble_eq_true rfl⟩ e40 ?_
  obtain ⟨h41, e42, hf0⟩ := ob hf0
  refine r_putFR C fk_X1_37 ⟨_, _, rfl⟩ (Or.inr ⟨_, rfl⟩) hin dX1_init_68 e42 ?_
  refine r_aload_n C dX1_init_71 rfl ?_
  refine r_bipush (v := 16) C dX1_init_72 (by decide) ?_
  obtain ⟨t43, h44, e45, hf0⟩ := ob2 hf0
  refine r_newIE C dX1_init_74 (by decide) (by decide) (by decide) ⟨Nat.le_of_ble_eq_true rfl, Nat.le_of_ble_eq_true rfl⟩ e45 ?_
  obtain ⟨h46, e47, hf0⟩ := ob hf0
  refine r_putFR C fk_X1_40 ⟨_, _, rfl⟩ (Or.inr ⟨_, rfl⟩) hin dX1_init_76 e47 ?_
  refine r_aload_n C dX1_init_79 rfl ?_
  refine r_iconst (v := 4) C dX1_init_80 (by decide) ?_
  obtain ⟨t48, h49, e50, hf0⟩ := ob2 hf0
  refine r_newIE C dX1_init_81 (by decide) (by decide) (by decide) ⟨Nat.le_of_ble_eq_true rfl, Nat.le_of_ble_eq_true rfl⟩ e50 ?_
  obtain ⟨h51, e52, hf0⟩ := ob hf0
  refine r_putFR C fk_X1_43 ⟨_, _, rfl⟩ (Or.inr ⟨_, rfl⟩) hin dX1_init_83 e52 ?_
  refine r_aload_n C dX1_init_86 rfl ?_
  refine r_iconst (v := 4) C dX1_init_87 (by decide) ?_
  obtain ⟨t53, h54, e55, hf0⟩ := ob2 hf0
  refine r_newIE C dX1_init_88 (by decide) (by decide) (by decide) ⟨Nat.le_of_ble_eq_true rfl, Nat.le_of_ble_eq_true rfl⟩ e55 ?_
  obtain ⟨h56, e57, hf0⟩ := ob hf0
  refine r_putFR C fk_X1_46 ⟨_, _, rfl⟩ (Or.inr ⟨_, rfl⟩) hin dX1_init_90 e57 ?_
  refine r_aload_n C dX1_init_93 rfl ?_
  refine r_sipush (v := 12288) C dX1_init_94 (by decide) ?_
  obtain ⟨t58, h59, e60, hf0⟩ := ob2 hf0
  refine r_newIE C dX1_init_97 (by decide) (by decide) (by decide) ⟨Nat.le_of_ble_eq_true rfl, Nat.le_of_ble_eq_true rfl⟩ e60 ?_
  obtain ⟨h61, e62, hf0⟩ := ob hf0
  refine r_putFR C fk_X1_49 ⟨_, _, rfl⟩ (Or.inr ⟨_, rfl⟩) hin dX1_init_99 e62 ?_
  refine r_aload_n C dX1_init_102 rfl ?_
  obtain ⟨u64, e63, hf0⟩ := ob hf0
  obtain ⟨h65, e66, hf0⟩ := ob hf0
  refine r_cV (ci := 1) (rest := []) (st2 := []) C (s_X1_clear e66) mk_X1_clear rfl (ck_k e63) (by decide) im_X1_clear sl_X1_clear lk_X1_52 rfl rfl rfl dX1_init_103 (Nat.le_of_ble_eq_true rfl) ⟨Nat.le_of_ble_eq_true rfl, Nat.le_of_ble_eq_true rfl⟩ ⟨Nat.le_of_ble_eq_true rfl, Nat.le_of_ble_eq_true rfl⟩ ?_
  obtain rfl := so hf0
  exact r_vret C dX1_init_106
def f_X1_weigh_b8 (h : aH) (v0 : Nat) (v1 : Int32) (v2 : Nat) (v3 : Int32) (v4 : Int32) (v5 : Int32) : Option ((Int32 × Int32 × Int32) ⊕ ((Unit) ⊕ (Int32))) := (gI h 1 v0 12).bind fun t1 => if t1 ≤ v5 then some (.inr (.inr v3)) else (ck h 1 v0).bind fun _ => (f_X1_valueIn h v0 v1 v5).bind fun t2 => if t2 < 0 then some (.inr (.inl ())) else (lI h v2 t2).bind fun t3 => if (t3 &&& v4) = 0 then (some (v4 ||| ((1 : Int32) <<< (t2 &&& 31)))).bind fun t4 => (gR h 1 v0 4).bind fun t5 => (lI h t5 t2).bind fun t6 => (some (v3 * t6)).bind fun t7 => (some (v5 + (1 : Int32))).bind fun t8 => some (.inl (t7, t4, t8)) else some (.inr (.inl ()))
def f_X1_weigh_l8 (h : aH) (v0 : Nat) (v1 : Int32) (v2 : Nat) (v3 : Int32) (v4 : Int32) (v5 : Int32) : Option ((Unit) ⊕ (Int32)) := whileL wN (fun q : Int32 × Int32 × Int32 => f_X1_weigh_b8 h v0 v1 v2 q.1 q.2.1 q.2.2) (v3, v4, v5)
def f_X1_weigh (h : aH) (v0 : Nat) (v1 : Int32) (v2 : Nat) : Option (Int32) := (f_X1_weigh_l8 h v0 v1 v2 (1 : Int32) (0 : Int32) (0 : Int32)).bind fun e => match e with | .inl _ => some (0 : Int32) | .inr t9 => some t9
theorem s_X1_weigh {h : aH} {v0 : Nat} {v1 : Int32} {v2 : Nat} {out : Int32} (hf0 : f_X1_weigh h v0 v1 v2 = some out) : EV 1 yX1_weigh cX1_weigh 7 (some .int) h [.ref v0, .int v1, .ref v2] (some (.int out)) h 0 0 := by
  refine EV.of (own := RX1) (lv0 := [(0, .ref v0), (1, .int v1), (2, .ref v2)]) (by decide +kernel) rfl rfl (Nat.le_of_ble_eq_true rfl) ?_
  intro p l e s m args below meth c D cA B Hb C hin
  unfold f_X1_weigh at hf0
  refine r_iconst (v := 1) C dX1_weigh_0 (by decide) ?_
  refine r_istore_n (lv' := [(3, .int (1 : Int32)), (0, .ref v0), (1, .int v1), (2, .ref v2)]) C dX1_weigh_1 (by decide) rfl rfl ?_
  refine r_iconst (v := 0) C dX1_weigh_2 (by decide) ?_
  refine r_istore (lv' := [(4, .int (0 : Int32)), (3, .int (1 : Int32)), (0, .ref v0), (1, .int v1), (2, .ref v2)]) C dX1_weigh_3 (by decide) rfl rfl ?_
  refine r_iconst (v := 0) C dX1_weigh_5 (by decide) ?_
  refine r_istore (lv' := [(5, .int (0 : Int32)), (4, .int (0 : Int32)), (3, .int (1 : Int32)), (0, .ref v0), (1, .int v1), (2, .ref v2)]) C dX1_weigh_6 (by decide) rfl rfl ?_
  obtain ⟨y1, hl8, hf0⟩ := ob hf0
  have L8 : ∀ (n : Nat) (t2 : Int32) (t3 : Int32) (t4 : Int32), whileL n (fun q : Int32 × Int32 × Int32 => f_X1_weigh_b8 h v0 v1 v2 q.1 q.2.1 q.2.2) (t2, t3, t4) = some y1 → gW p l e (rmO 1 0 0) s m args below meth c (MQ below (eQ D cA B Hb h (some (.int out))) args s 0 0 (fun q => B ≤ q)) D cA B Hb 7 h 8 [(0, .ref v0), (1, .int v1), (2, .ref v2), (3, .int t2), (4, .int t3), (5, .int t4)] [] 0 0 := by
    intro n
    induction n with
    | zero => intro t2 t3 t4 hz; cases hz
    | succ n ih8 =>
      intro t2 t3 t4 hz
      obtain ⟨x8, hf1, hk8⟩ := wl hz
      replace hf1 : f_X1_weigh_b8 h v0 v1 v2 t2 t3 t4 = some x8 := hf1
      unfold f_X1_weigh_b8 at hf1
      refine r_iload C dX1_weigh_8 rfl ?_
      refine r_aload_n C dX1_weigh_10 rfl ?_
      obtain ⟨t5, e6, hf1⟩ := ob hf1
      refine r_getI C fk_X1_59 rfl dX1_weigh_11 e6 ?_
      refine r_icmp_ge (tgt := 68) C dX1_weigh_14 (by decide) (fun c7 => ?_) (fun c7 => ?_)
      · rw [if_pos c7] at hf1
        obtain rfl := so hf1
        obtain rfl := so (show some (.inr t2 : (Unit) ⊕ (Int32)) = some y1 from hk8)
        dsimp only at hf0
        refine r_iload_n C dX1_weigh_68 rfl ?_
        obtain rfl := so hf0
        exact r_iret C dX1_weigh_69
      · rw [if_neg c7] at hf1
        refine r_aload_n C dX1_weigh_17 rfl ?_
        refine r_iload_n C dX1_weigh_18 rfl ?_
        refine r_iload C dX1_weigh_19 rfl ?_
        obtain ⟨u9, e8, hf1⟩ := ob hf1
        obtain ⟨t10, e11, hf1⟩ := ob hf1
        refine r_cV (ci := 1) (rest := []) (st2 := [.int t10]) C (s_X1_valueIn e11) mk_X1_valueIn rfl (ck_k e8) (by decide) im_X1_valueIn sl_X1_valueIn lk_X1_97 rfl rfl rfl dX1_weigh_21 (Nat.le_of_ble_eq_true rfl) ⟨Nat.le_of_ble_eq_true rfl, Nat.le_of_ble_eq_true rfl⟩ ⟨Nat.le_of_ble_eq_true rfl, Nat.le_of_ble_eq_true rfl⟩ ?_
        refine r_istore (lv' := [(6, .int t10), (0, .ref v0), (1, .int v1), (2, .ref v2), (3, .int t2), (4, .int t3), (5, .int t4)]) C dX1_weigh_24 (by decide) rfl rfl ?_
        refine r_iload C dX1_weigh_26 rfl ?_
        refine r_iflt (tgt := 41) C dX1_weigh_28 (by decide) (fun c12 => ?_) (fun c12 => ?_)
        · rw [if_pos c12] at hf1
          obtain rfl := so hf1
          obtain rfl := so (show some (.inl () : (Unit) ⊕ (Int32)) = some y1 from hk8)
          dsimp only at hf0
          refine r_iconst (v := 0) C dX1_weigh_41 (by decide) ?_
          obtain rfl := so hf0
          exact r_iret C dX1_weigh_42
        · rw [if_neg c12] at hf1
          refine r_aload_n C dX1_weigh_31 rfl ?_
          refine r_iload C dX1_weigh_32 rfl ?_
          obtain ⟨t13, e14, hf1⟩ := ob hf1
          refine r_ldI C dX1_weigh_34 e14 ?_
          refine r_iload C dX1_weigh_35 rfl ?_
          refine r_iand C dX1_weigh_37 ?_
          refine r_ifeq (tgt := 43) C dX1_weigh_38 (by decide) (fun c15 => ?_) (fun c15 => ?_)
          · rw [if_pos c15] at hf1
            refine r_iload C dX1_weigh_43 rfl ?_
            refine r_iconst (v := 1) C dX1_weigh_45 (by decide) ?_
            refine r_iload C dX1_weigh_46 rfl ?_
            refine r_ishl C dX1_weigh_48 ?_
            refine r_ior C dX1_weigh_49 ?_
            obtain ⟨t16, e17, hf1⟩ := ob hf1
            refine r_istore (lv' := [(4, .int t16), (6, .int t10), (0, .ref v0), (1, .int v1), (2, .ref v2), (3, .int t2), (5, .int t4)]) C dX1_weigh_50 (by decide) e17 rfl ?_
            refine r_iload_n C dX1_weigh_52 rfl ?_
            refine r_aload_n C dX1_weigh_53 rfl ?_
            obtain ⟨t18, e19, hf1⟩ := ob hf1
            refine r_getR C fk_X1_28 rfl dX1_weigh_54 e19 ?_
            refine r_iload C dX1_weigh_57 rfl ?_
            obtain ⟨t20, e21, hf1⟩ := ob hf1
            refine r_ldI C dX1_weigh_59 e21 ?_
            refine r_imul C dX1_weigh_60 ?_
            obtain ⟨t22, e23, hf1⟩ := ob hf1
            refine r_istore_n (lv' := [(3, .int t22), (4, .int t16), (6, .int t10), (0, .ref v0), (1, .int v1), (2, .ref v2), (5, .int t4)]) C dX1_weigh_61 (by decide) e23 rfl ?_
            obtain ⟨t24, e25, hf1⟩ := ob hf1
            refine r_iinc (lv' := [(5, .int t24), (3, .int t22), (4, .int t16), (6, .int t10), (0, .ref v0), (1, .int v1), (2, .ref v2)]) C dX1_weigh_62 rfl e25 (by decide) rfl ?_
            refine r_goto (tgt := 8) C dX1_weigh_65 (by decide) ?_
            obtain rfl := so hf1
            refine r_subk [4, 5, 6, 1, 2, 0] (lv' := [(0, .ref v0), (1, .int v1), (2, .ref v2), (3, .int t22), (4, .int t16), (5, .int t24)]) rfl ?_
            exact ih8 t22 t16 t24 hk8
          · rw [if_neg c15] at hf1
            obtain rfl := so hf1
            obtain rfl := so (show some (.inl () : (Unit) ⊕ (Int32)) = some y1 from hk8)
            dsimp only at hf0
            refine r_iconst (v := 0) C dX1_weigh_41 (by decide) ?_
            obtain rfl := so hf0
            exact r_iret C dX1_weigh_42
  refine r_subk [3, 4, 5, 2, 1, 0] (lv' := [(0, .ref v0), (1, .int v1), (2, .ref v2), (3, .int (1 : Int32)), (4, .int (0 : Int32)), (5, .int (0 : Int32))]) rfl ?_
  exact L8 wN (1 : Int32) (0 : Int32) (0 : Int32) hl8
def f_X1_makeWorlds_b9 (v0 : Nat) (v1 : Nat) (v2 : Int32) (v3 : Int32) (h : aH) : Option ((Int32 × Int32 × aH) ⊕ (Int32 × aH)) := if v3 < 0 then some (.inr (v2, h)) else (gR h 1 v0 2).bind fun t3 => (sI h t3 v3 v2).bind fun h4 => (gR h4 1 v0 1).bind fun t5 => (lI h4 t5 (v3 + (1 : Int32))).bind fun t6 => (gR h4 1 v0 1).bind fun t7 => (lI h4 t7 v3).bind fun t8 => (some (v2 * (t6 - t8))).bind fun t9 => (some (v3 + (-1 : Int32))).bind fun t10 => some (.inl (t9, t10, h4))
def f_X1_makeWorlds_l9 (v0 : Nat) (v1 : Nat) (v2 : Int32) (v3 : Int32) (h : aH) : Option (Int32 × aH) := whileL wN (fun q : Int32 × Int32 × aH => f_X1_makeWorlds_b9 v0 v1 q.1 q.2.1 q.2.2) (v2, v3, h)
def f_X1_makeWorlds_j108 (h : aH) (v0 : Nat) (v1 : Nat) (v3 : Int32) : Option ((Int32 × aH) ⊕ (aH)) := (some (v3 + (1 : Int32))).bind fun t15 => some (.inl (t15, h))
def f_X1_makeWorlds_b62 (v0 : Nat) (v1 : Nat) (v3 : Int32) (h : aH) : Option ((Int32 × aH) ⊕ (aH)) := (gI h 1 v0 14).bind fun t16 => if t16 ≤ v3 then some (.inr h) else (gR h 1 v0 6).bind fun t17 => (sI h t17 v3 (0 : Int32)).bind fun h18 => (gR h18 1 v0 5).bind fun t19 => (ck h18 1 v0).bind fun _ => (f_X1_weigh h18 v0 v3 v1).bind fun t20 => (sI h18 t19 v3 t20).bind fun h21 => (gR h21 1 v0 5).bind fun t22 => (lI h21 t22 v3).bind fun t23 => if t23 ≤ 0 then f_X1_makeWorlds_j108 h21 v0 v1 v3 else (gI h21 1 v0 15).bind fun t24 => (pI h21 1 v0 15 (t24 + (1 : Int32))).bind fun h25 => f_X1_makeWorlds_j108 h25 v0 v1 v3
def f_X1_makeWorlds_l62 (v0 : Nat) (v1 : Nat) (v3 : Int32) (h : aH) : Option (aH) := whileL wN (fun q : Int32 × aH => f_X1_makeWorlds_b62 v0 v1 q.1 q.2) (v3, h)
def f_X1_makeWorlds (h : aH) (v0 : Nat) (v1 : Nat) : Option (aH) := (gI h 1 v0 12).bind fun t1 => (some (t1 - (1 : Int32))).bind fun t2 => bd2 (f_X1_makeWorlds_l9 v0 v1 (1 : Int32) t2 h) fun t11 h12 => (pI h12 1 v0 14 (mnI t11 (256 : Int32))).bind fun h13 => (pI h13 1 v0 15 (0 : Int32)).bind fun h14 => (f_X1_makeWorlds_l62 v0 v1 (0 : Int32) h14).bind fun h26 => some h26
theorem s_X1_makeWorlds {h : aH} {v0 : Nat} {v1 : Nat} {out : aH} (hf0 : f_X1_makeWorlds h v0 v1 = some out) : EV 2 yX1_makeWorlds cX1_makeWorlds 4 none h [.ref v0, .ref v1] none out 0 0 := by
  refine EV.of (own := RX1) (lv0 := [(0, .ref v0), (1, .ref v1)]) (by decide +kernel) rfl rfl (Nat.le_of_ble_eq_true rfl) ?_
  intro p l e s m args below meth c D cA B Hb C hin
  unfold f_X1_makeWorlds at hf0
  refine r_iconst (v := 1) C dX1_makeWorlds_0 (by decide) ?_
  refine r_istore_n (lv' := [(2, .int (1 : Int32)), (0, .ref v0), (1, .ref v1)]) C dX1_makeWorlds_1 (by decide) rfl rfl ?_
  refine r_aload_n C dX1_makeWorlds_2 rfl ?_
  obtain ⟨t1, e2, hf0⟩ := ob hf0
  refine r_getI C fk_X1_59 rfl dX1_makeWorlds_3 e2 ?_
  refine r_iconst (v := 1) C dX1_makeWorlds_6 (by decide) ?_
  refine r_isub C dX1_makeWorlds_7 ?_
  obtain ⟨t3, e4, hf0⟩ := ob hf0
  refine r_istore_n (lv' := [(3, .int t3), (2, .int (1 : Int32)), (0, .ref v0), (1, .ref v1)]) C dX1_makeWorlds_8 (by decide) e4 rfl ?_
  obtain ⟨y5, y6, hl9, hf0⟩ := ob2 hf0
  have L9 : ∀ (n : Nat) (t7 : Int32) (t8 : Int32) (h9 : aH), whileL n (fun q : Int32 × Int32 × aH => f_X1_makeWorlds_b9 v0 v1 q.1 q.2.1 q.2.2) (t7, t8, h9) = some (y5, y6) → gW p l e (rmO 2 0 0) s m args below meth c (MQ below (eQ D cA B Hb out none) args s 0 0 (fun q => B ≤ q)) D cA B Hb 4 h9 9 [(0, .ref v0), (1, .ref v1), (2, .int t7), (3, .int t8)] [] 0 0 := by
    intro n
    induction n with
    | zero => intro t7 t8 h9 hz; cases hz
    | succ n ih9 =>
      intro t7 t8 h9 hz
      obtain ⟨x9, hf1, hk9⟩ := wl hz
      replace hf1 : f_X1_makeWorlds_b9 v0 v1 t7 t8 h9 = some x9 := hf1
      unfold f_X1_makeWorlds_b9 at hf1
      refine r_iload_n C dX1_makeWorlds_9 rfl ?_
      refine r_iflt (tgt := 44) C dX1_makeWorlds_10 (by decide) (fun c10 => ?_) (fun c10 => ?_)
      · rw [if_pos c10] at hf1
        obtain rfl := so hf1
        obtain ⟨rfl, rfl⟩ := so2 (show some (t7, h9) = some (y5, y6) from hk9)
        refine r_aload_n C dX1_makeWorlds_44 rfl ?_
        refine r_iload_n C dX1_makeWorlds_45 rfl ?_
        refine r_sipush (v := 256) C dX1_makeWorlds_46 (by decide) ?_
        refine r_mmin C lk_X1_87 dX1_makeWorlds_49 ⟨Nat.le_of_ble_eq_true rfl, Nat.le_of_ble_eq_true rfl⟩ (Nat.le_of_ble_eq_true rfl) ⟨Nat.le_of_ble_eq_true rfl, Nat.le_of_ble_eq_true rfl⟩ ?_
        obtain ⟨h11, e12, hf0⟩ := ob hf0
        refine r_putI C fk_X1_71 dX1_makeWorlds_52 e12 ?_
        refine r_aload_n C dX1_makeWorlds_55 rfl ?_
        refine r_iconst (v := 0) C dX1_makeWorlds_56 (by decide) ?_
        obtain ⟨h13, e14, hf0⟩ := ob hf0
        refine r_putI C fk_X1_74 dX1_makeWorlds_57 e14 ?_
        refine r_iconst (v := 0) C dX1_makeWorlds_60 (by decide) ?_
        refine r_istore_n (lv' := [(3, .int (0 : Int32)), (0, .ref v0), (1, .ref v1), (2, .int t7)]) C dX1_makeWorlds_61 (by decide) rfl rfl ?_
        obtain ⟨y15, hl62, hf0⟩ := ob hf0
        have L62 : ∀ (n : Nat) (t16 : Int32) (h17 : aH), whileL n (fun q : Int32 × aH => f_X1_makeWorlds_b62 v0 v1 q.1 q.2) (t16, h17) = some y15 → gW p l e (rmO 2 0 0) s m args below meth c (MQ below (eQ D cA B Hb out none) args s 0 0 (fun q => B ≤ q)) D cA B Hb 4 h17 62 [(0, .ref v0), (1, .ref v1), (3, .int t16)] [] 0 0 := by
          intro n
          induction n with
          | zero => intro t16 h17 hz; cases hz
          | succ n ih62 =>
            intro t16 h17 hz
            obtain ⟨x62, hf1, hk62⟩ := wl hz
            replace hf1 : f_X1_makeWorlds_b62 v0 v1 t16 h17 = some x62 := hf1
            unfold f_X1_makeWorlds_b62 at hf1
            have J108 : ∀ (h18 : aH) (t19 : Int32), f_X1_makeWorlds_j108 h18 v0 v1 t19 = some x62 → gW p l e (rmO 2 0 0) s m args below meth c (MQ below (eQ D cA B Hb out none) args s 0 0 (fun q => B ≤ q)) D cA B Hb 4 h18 108 [(0, .ref v0), (1, .ref v1), (3, .int t19)] [] 0 0 := by
              intro h18 t19 hf1
              unfold f_X1_makeWorlds_j108 at hf1
              obtain ⟨t20, e21, hf1⟩ := ob hf1
              refine r_iinc (lv' := [(3, .int t20), (0, .ref v0), (1, .ref v1)]) C dX1_makeWorlds_108 rfl e21 (by decide) rfl ?_
              refine r_goto (tgt := 62) C dX1_makeWorlds_111 (by decide) ?_
              obtain rfl := so hf1
              refine r_subk [1, 2, 0] (lv' := [(0, .ref v0), (1, .ref v1), (3, .int t20)]) rfl ?_
              exact ih62 t20 h18 hk62
            refine r_iload_n C dX1_makeWorlds_62 rfl ?_
            refine r_aload_n C dX1_makeWorlds_63 rfl ?_
            obtain ⟨t22, e23, hf1⟩ := ob hf1
            refine r_getI C fk_X1_71 rfl dX1_makeWorlds_64 e23 ?_
            refine r_icmp_ge (tgt := 114) C dX1_makeWorlds_67 (by decide) (fun c24 => ?_) (fun c24 => ?_)
            · rw [if_pos c24] at hf1
              obtain rfl := so hf1
              obtain rfl := so (show some h17 = some y15 from hk62)
              obtain rfl := so hf0
              exact r_vret C dX1_makeWorlds_114
            · rw [if_neg c24] at hf1
              refine r_aload_n C dX1_makeWorlds_70 rfl ?_
              obtain ⟨t25, e26, hf1⟩ := ob hf1
              refine r_getR C fk_X1_34 rfl dX1_makeWorlds_71 e26 ?_
              refine r_iload_n C dX1_makeWorlds_74 rfl ?_
              refine r_iconst (v := 0) C dX1_makeWorlds_75 (by decide) ?_
              obtain ⟨h27, e28, hf1⟩ := ob hf1
              refine r_stI C dX1_makeWorlds_76 e28 ?_
              refine r_aload_n C dX1_makeWorlds_77 rfl ?_
              obtain ⟨t29, e30, hf1⟩ := ob hf1
              refine r_getR C fk_X1_31 rfl dX1_makeWorlds_78 e30 ?_
              refine r_iload_n C dX1_makeWorlds_81 rfl ?_
              refine r_aload_n C dX1_makeWorlds_82 rfl ?_
              refine r_iload_n C dX1_makeWorlds_83 rfl ?_
              refine r_aload_n C dX1_makeWorlds_84 rfl ?_
              obtain ⟨u32, e31, hf1⟩ := ob hf1
              obtain ⟨t33, e34, hf1⟩ := ob hf1
              refine r_cV (ci := 1) (rest := [.int t16, .ref t29]) (st2 := [.int t33, .int t16, .ref t29]) C (s_X1_weigh e34) mk_X1_weigh rfl (ck_k e31) (by decide) im_X1_weigh sl_X1_weigh lk_X1_93 rfl rfl rfl dX1_makeWorlds_85 (Nat.le_of_ble_eq_true rfl) ⟨Nat.le_of_ble_eq_true rfl, Nat.le_of_ble_eq_true rfl⟩ ⟨Nat.le_of_ble_eq_true rfl, Nat.le_of_ble_eq_true rfl⟩ ?_
              obtain ⟨h35, e36, hf1⟩ := ob hf1
              refine r_stI C dX1_makeWorlds_88 e36 ?_
              refine r_aload_n C dX1_makeWorlds_89 rfl ?_
              obtain ⟨t37, e38, hf1⟩ := ob hf1
              refine r_getR C fk_X1_31 rfl dX1_makeWorlds_90 e38 ?_
              refine r_iload_n C dX1_makeWorlds_93 rfl ?_
              obtain ⟨t39, e40, hf1⟩ := ob hf1
              refine r_ldI C dX1_makeWorlds_94 e40 ?_
              refine r_ifle (tgt := 108) C dX1_makeWorlds_95 (by decide) (fun c41 => ?_) (fun c41 => ?_)
              · rw [if_pos c41] at hf1
                exact J108 h35 t16 hf1
              · rw [if_neg c41] at hf1
                refine r_aload_n C dX1_makeWorlds_98 rfl ?_
                refine r_dup C dX1_makeWorlds_99 rfl ?_
                obtain ⟨t42, e43, hf1⟩ := ob hf1
                refine r_getI C fk_X1_74 rfl dX1_makeWorlds_100 e43 ?_
                refine r_iconst (v := 1) C dX1_makeWorlds_103 (by decide) ?_
                refine r_iadd C dX1_makeWorlds_104 ?_
                obtain ⟨h44, e45, hf1⟩ := ob hf1
                refine r_putI C fk_X1_74 dX1_makeWorlds_105 e45 ?_
                exact J108 h44 t16 hf1
        refine r_subk [1, 2, 0] (lv' := [(0, .ref v0), (1, .ref v1), (3, .int (0 : Int32))]) rfl ?_
        exact L62 wN (0 : Int32) h13 hl62
      · rw [if_neg c10] at hf1
        refine r_aload_n C dX1_makeWorlds_13 rfl ?_
        obtain ⟨t46, e47, hf1⟩ := ob hf1
        refine r_getR C fk_X1_22 rfl dX1_makeWorlds_14 e47 ?_
        refine r_iload_n C dX1_makeWorlds_17 rfl ?_
        refine r_iload_n C dX1_makeWorlds_18 rfl ?_
        obtain ⟨h48, e49, hf1⟩ := ob hf1
        refine r_stI C dX1_makeWorlds_19 e49 ?_
        refine r_iload_n C dX1_makeWorlds_20 rfl ?_
        refine r_aload_n C dX1_makeWorlds_21 rfl ?_
        obtain ⟨t50, e51, hf1⟩ := ob hf1
        refine r_getR C fk_X1_18 rfl dX1_makeWorlds_22 e51 ?_
        refine r_iload_n C dX1_makeWorlds_25 rfl ?_
        refine r_iconst (v := 1) C dX1_makeWorlds_26 (by decide) ?_
        refine r_iadd C dX1_makeWorlds_27 ?_
        obtain ⟨t52, e53, hf1⟩ := ob hf1
        refine r_ldI C dX1_makeWorlds_28 e53 ?_
        refine r_aload_n C dX1_makeWorlds_29 rfl ?_
        obtain ⟨t54, e55, hf1⟩ := ob hf1
        refine r_getR C fk_X1_18 rfl dX1_makeWorlds_30 e55 ?_
        refine r_iload_n C dX1_makeWorlds_33 rfl ?_
        obtain ⟨t56, e57, hf1⟩ := ob hf1
        refine r_ldI C dX1_makeWorlds_34 e57 ?_
        refine r_isub C dX1_makeWorlds_35 ?_
        refine r_imul C dX1_makeWorlds_36 ?_
        obtain ⟨t58, e59, hf1⟩ := ob hf1
        refine r_istore_n (lv' := [(2, .int t58), (0, .ref v0), (1, .ref v1), (3, .int t8)]) C dX1_makeWorlds_37 (by decide) e59 rfl ?_
        obtain ⟨t60, e61, hf1⟩ := ob hf1
        refine r_iinc (lv' := [(3, .int t60), (2, .int t58), (0, .ref v0), (1, .ref v1)]) C dX1_makeWorlds_38 rfl e61 (by decide) rfl ?_
        refine r_goto (tgt := 9) C dX1_makeWorlds_41 (by decide) ?_
        obtain rfl := so hf1
        refine r_subk [2, 3, 1, 0] (lv' := [(0, .ref v0), (1, .ref v1), (2, .int t58), (3, .int t60)]) rfl ?_
        exact ih9 t58 t60 h48 hk9
  refine r_subk [2, 3, 1, 0] (lv' := [(0, .ref v0), (1, .ref v1), (2, .int (1 : Int32)), (3, .int t3)]) rfl ?_
  exact L9 wN (1 : Int32) t3 h hl9
def f_X1_packedAnswers (h : aH) (v0 : Nat) (v1 : Int32) (v2 : Int32) (v3 : Int32) : Option (Int32) := (gR h 1 v0 11).bind fun t1 => (lI h t1 ((((v1 * (12 : Int32)) + v2) * (256 : Int32)) + v3)).bind fun t2 => some t2
theorem s_X1_packedAnswers {h : aH} {v0 : Nat} {v1 : Int32} {v2 : Int32} {v3 : Int32} {out : Int32} (hf0 : f_X1_packedAnswers h v0 v1 v2 v3 = some out) : EV 0 yX1_packedAnswers cX1_packedAnswers 4 (some .int) h [.ref v0, .int v1, .int v2, .int v3] (some (.int out)) h 0 0 := by
  refine EV.of (own := RX1) (lv0 := [(0, .ref v0), (1, .int v1), (2, .int v2), (3, .int v3)]) (by decide +kernel) rfl rfl (Nat.le_of_ble_eq_true rfl) ?_
  intro p l e s m args below meth c D cA B Hb C hin
  unfold f_X1_packedAnswers at hf0
  refine r_aload_n C dX1_packedAnswers_0 rfl ?_
  obtain ⟨t1, e2, hf0⟩ := ob hf0
  refine r_getR C fk_X1_49 rfl dX1_packedAnswers_1 e2 ?_
  refine r_iload_n C dX1_packedAnswers_4 rfl ?_
  refine r_bipush (v := 12) C dX1_packedAnswers_5 (by decide) ?_
  refine r_imul C dX1_packedAnswers_7 ?_
  refine r_iload_n C dX1_packedAnswers_8 rfl ?_
  refine r_iadd C dX1_packedAnswers_9 ?_
  refine r_sipush (v := 256) C dX1_packedAnswers_10 (by decide) ?_
  refine r_imul C dX1_packedAnswers_13 ?_
  refine r_iload_n C dX1_packedAnswers_14 rfl ?_
  refine r_iadd C dX1_packedAnswers_15 ?_
  obtain ⟨t3, e4, hf0⟩ := ob hf0
  refine r_ldI C dX1_packedAnswers_16 e4 ?_
  obtain rfl := so hf0
  exact r_iret C dX1_packedAnswers_17
def f_X1_answerOf (h : aH) (v0 : Int32) (v1 : Int32) : Option (Int32) := some ((v0 >>> ((v1 * (5 : Int32)) &&& 31)) &&& (31 : Int32))
theorem s_X1_answerOf {h : aH} {v0 : Int32} {v1 : Int32} {out : Int32} (hf0 : f_X1_answerOf h v0 v1 = some out) : EV 0 yX1_answerOf cX1_answerOf 2 (some .int) h [.int v0, .int v1] (some (.int out)) h 0 0 := by
  refine EV.of (own := RX1) (lv0 := [(0, .int v0), (1, .int v1)]) (by decide +kernel) rfl rfl (Nat.le_of_ble_eq_true rfl) ?_
  intro p l e s m args below meth c D cA B Hb C hin
  unfold f_X1_answerOf at hf0
  refine r_iload_n C dX1_answerOf_0 rfl ?_
  refine r_iload_n C dX1_answerOf_1 rfl ?_
  refine r_iconst (v := 5) C dX1_answerOf_2 (by decide) ?_
  refine r_imul C dX1_answerOf_3 ?_
  refine r_ishr C dX1_answerOf_4 ?_
  refine r_bipush (v := 31) C dX1_answerOf_5 (by decide) ?_
  refine r_iand C dX1_answerOf_7 ?_
  obtain rfl := so hf0
  exact r_iret C dX1_answerOf_8
def f_X1_kindsAnswering_j28 (h : aH) (v1 : Int32) (v2 : Int32) (v3 : Int32) (v4 : Int32) : Option ((Int32 × Int32 × Int32) ⊕ (Int32)) := (some (v3 >>> ((5 : Int32) &&& 31))).bind fun t1 => (some (v4 + (1 : Int32))).bind fun t2 => some (.inl (v2, t1, t2))
def f_X1_kindsAnswering_b7 (h : aH) (v1 : Int32) (v2 : Int32) (v3 : Int32) (v4 : Int32) : Option ((Int32 × Int32 × Int32) ⊕ (Int32)) := if (4 : Int32) ≤ v4 then some (.inr v2) else if (v3 &&& (31 : Int32)) = v1 then (some (v2 ||| ((1 : Int32) <<< (v4 &&& 31)))).bind fun t3 => f_X1_kindsAnswering_j28 h v1 t3 v3 v4 else f_X1_kindsAnswering_j28 h v1 v2 v3 v4
def f_X1_kindsAnswering_l7 (h : aH) (v1 : Int32) (v2 : Int32) (v3 : Int32) (v4 : Int32) : Option (Int32) := whileL wN (fun q : Int32 × Int32 × Int32 => f_X1_kindsAnswering_b7 h v1 q.1 q.2.1 q.2.2) (v2, v3, v4)
def f_X1_kindsAnswering (h : aH) (v0 : Int32) (v1 : Int32) : Option (Int32) := (f_X1_kindsAnswering_l7 h v1 (0 : Int32) v0 (0 : Int32)).bind fun t4 => some t4
theorem s_X1_kindsAnswering {h : aH} {v0 : Int32} {v1 : Int32} {out : Int32} (hf0 : f_X1_kindsAnswering h v0 v1 = some out) : EV 0 yX1_kindsAnswering cX1_kindsAnswering 5 (some .int) h [.int v0, .int v1] (some (.int out)) h 0 0 := by
  refine EV.of (own := RX1) (lv0 := [(0, .int v0), (1, .int v1)]) (by decide +kernel) rfl rfl (Nat.le_of_ble_eq_true rfl) ?_
  intro p l e s m args below meth c D cA B Hb C hin
  unfold f_X1_kindsAnswering at hf0
  refine r_iconst (v := 0) C dX1_kindsAnswering_0 (by decide) ?_
  refine r_istore_n (lv' := [(2, .int (0 : Int32)), (0, .int v0), (1, .int v1)]) C dX1_kindsAnswering_1 (by decide) rfl rfl ?_
  refine r_iload_n C dX1_kindsAnswering_2 rfl ?_
  refine r_istore_n (lv' := [(3, .int v0), (2, .int (0 : Int32)), (0, .int v0), (1, .int v1)]) C dX1_kindsAnswering_3 (by decide) rfl rfl ?_
  refine r_iconst (v := 0) C dX1_kindsAnswering_4 (by decide) ?_
  refine r_istore (lv' := [(4, .int (0 : Int32)), (3, .int v0), (2, .int (0 : Int32)), (0, .int v0), (1, .int v1)]) C dX1_kindsAnswering_5 (by decide) rfl rfl ?_
  obtain ⟨y1, hl7, hf0⟩ := ob hf0
  have L7 : ∀ (n : Nat) (t2 : Int32) (t3 : Int32) (t4 : Int32), whileL n (fun q : Int32 × Int32 × Int32 => f_X1_kindsAnswering_b7 h v1 q.1 q.2.1 q.2.2) (t2, t3, t4) = some y1 → gW p l e (rmO 0 0 0) s m args below meth c (MQ below (eQ D cA B Hb h (some (.int out))) args s 0 0 (fun q => B ≤ q)) D cA B Hb 5 h 7 [(1, .int v1), (2, .int t2), (3, .int t3), (4, .int t4)] [] 0 0 := by
    intro n
    induction n with
    | zero => intro t2 t3 t4 hz; cases hz
    | succ n ih7 =>
      intro t2 t3 t4 hz
      obtain ⟨x7, hf1, hk7⟩ := wl hz
      replace hf1 : f_X1_kindsAnswering_b7 h v1 t2 t3 t4 = some x7 := hf1
      unfold f_X1_kindsAnswering_b7 at hf1
      have J28 : ∀ (t5 : Int32) (t6 : Int32) (t7 : Int32), f_X1_kindsAnswering_j28 h v1 t5 t6 t7 = some x7 → gW p l e (rmO 0 0 0) s m args below meth c (MQ below (eQ D cA B Hb h (some (.int out))) args s 0 0 (fun q => B ≤ q)) D cA B Hb 5 h 28 [(1, .int v1), (2, .int t5), (3, .int t6), (4, .int t7)] [] 0 0 := by
        intro t5 t6 t7 hf1
        unfold f_X1_kindsAnswering_j28 at hf1
        refine r_iload_n C dX1_kindsAnswering_28 rfl ?_
        refine r_iconst (v := 5) C dX1_kindsAnswering_29 (by decide) ?_
        refine r_ishr C dX1_kindsAnswering_30 ?_
        obtain ⟨t8, e9, hf1⟩ := ob hf1
        refine r_istore_n (lv' := [(3, .int t8), (1, .int v1), (2, .int t5), (4, .int t7)]) C dX1_kindsAnswering_31 (by decide) e9 rfl ?_
        obtain ⟨t10, e11, hf1⟩ := ob hf1
        refine r_iinc (lv' := [(4, .int t10), (3, .int t8), (1, .int v1), (2, .int t5)]) C dX1_kindsAnswering_32 rfl e11 (by decide) rfl ?_
        refine r_goto (tgt := 7) C dX1_kindsAnswering_35 (by decide) ?_
        obtain rfl := so hf1
        refine r_subk [2, 3, 1, 0] (lv' := [(1, .int v1), (2, .int t5), (3, .int t8), (4, .int t10)]) rfl ?_
        exact ih7 t5 t8 t10 hk7
      refine r_iload C dX1_kindsAnswering_7 rfl ?_
      refine r_iconst (v := 4) C dX1_kindsAnswering_9 (by decide) ?_
      refine r_icmp_ge (tgt := 38) C dX1_kindsAnswering_10 (by decide) (fun c12 => ?_) (fun c12 => ?_)
      · rw [if_pos c12] at hf1
        obtain rfl := so hf1
        obtain rfl := so (show some t2 = some y1 from hk7)
        refine r_iload_n C dX1_kindsAnswering_38 rfl ?_
        obtain rfl := so hf0
        exact r_iret C dX1_kindsAnswering_39
      · rw [if_neg c12] at hf1
        refine r_iload_n C dX1_kindsAnswering_13 rfl ?_
        refine r_bipush (v := 31) C dX1_kindsAnswering_14 (by decide) ?_
        refine r_iand C dX1_kindsAnswering_16 ?_
        refine r_iload_n C dX1_kindsAnswering_17 rfl ?_
        refine r_icmp_ne (tgt := 28) C dX1_kindsAnswering_18 (by decide) (fun c13 => ?_) (fun c13 => ?_)
        · rw [if_neg c13] at hf1
          exact J28 t2 t3 t4 hf1
        · rw [if_pos c13] at hf1
          refine r_iload_n C dX1_kindsAnswering_21 rfl ?_
          refine r_iconst (v := 1) C dX1_kindsAnswering_22 (by decide) ?_
          refine r_iload C dX1_kindsAnswering_23 rfl ?_
          refine r_ishl C dX1_kindsAnswering_25 ?_
          refine r_ior C dX1_kindsAnswering_26 ?_
          obtain ⟨t14, e15, hf1⟩ := ob hf1
          refine r_istore_n (lv' := [(2, .int t14), (1, .int v1), (3, .int t3), (4, .int t4)]) C dX1_kindsAnswering_27 (by decide) e15 rfl ?_
          refine r_subk [1, 0, 2, 3] (lv' := [(1, .int v1), (2, .int t14), (3, .int t3), (4, .int t4)]) rfl ?_
          exact J28 t14 t3 t4 hf1
  refine r_subk [4, 2, 1, 0] (lv' := [(1, .int v1), (2, .int (0 : Int32)), (3, .int v0), (4, .int (0 : Int32))]) rfl ?_
  exact L7 wN (0 : Int32) v0 (0 : Int32) hl7
def f_X1_answersOf_j31 (h : aH) (v1 : Int32) (v2 : Int32) (v3 : Int32) (v4 : Int32) : Option ((Int32 × Int32 × Int32) ⊕ (Int32)) := (some (v3 >>> ((5 : Int32) &&& 31))).bind fun t1 => (some (v4 + (1 : Int32))).bind fun t2 => some (.inl (v2, t1, t2))
def f_X1_answersOf_b7 (h : aH) (v1 : Int32) (v2 : Int32) (v3 : Int32) (v4 : Int32) : Option ((Int32 × Int32 × Int32) ⊕ (Int32)) := if (4 : Int32) ≤ v4 then some (.inr v2) else if ((v1 >>> (v4 &&& 31)) &&& (1 : Int32)) = 0 then f_X1_answersOf_j31 h v1 v2 v3 v4 else (some (v2 ||| ((1 : Int32) <<< ((v3 &&& (31 : Int32)) &&& 31)))).bind fun t3 => f_X1_answersOf_j31 h v1 t3 v3 v4
def f_X1_answersOf_l7 (h : aH) (v1 : Int32) (v2 : Int32) (v3 : Int32) (v4 : Int32) : Option (Int32) := whileL wN (fun q : Int32 × Int32 × Int32 => f_X1_answersOf_b7 h v1 q.1 q.2.1 q.2.2) (v2, v3, v4)
def f_X1_answersOf (h : aH) (v0 : Int32) (v1 : Int32) : Option (Int32) := (f_X1_answersOf_l7 h v1 (0 : Int32) v0 (0 : Int32)).bind fun t4 => some t4
theorem s_X1_answersOf {h : aH} {v0 : Int32} {v1 : Int32} {out : Int32} (hf0 : f_X1_answersOf h v0 v1 = some out) : EV 0 yX1_answersOf cX1_answersOf 5 (some .int) h [.int v0, .int v1] (some (.int out)) h 0 0 := by
  refine EV.of (own := RX1) (lv0 := [(0, .int v0), (1, .int v1)]) (by decide +kernel) rfl rfl (Nat.le_of_ble_eq_true rfl) ?_
  intro p l e s m args below meth c D cA B Hb C hin
  unfold f_X1_answersOf at hf0
  refine r_iconst (v := 0) C dX1_answersOf_0 (by decide) ?_
  refine r_istore_n (lv' := [(2, .int (0 : Int32)), (0, .int v0), (1, .int v1)]) C dX1_answersOf_1 (by decide) rfl rfl ?_
  refine r_iload_n C dX1_answersOf_2 rfl ?_
  refine r_istore_n (lv' := [(3, .int v0), (2, .int (0 : Int32)), (0, .int v0), (1, .int v1)]) C dX1_answersOf_3 (by decide) rfl rfl ?_
  refine r_iconst (v := 0) C dX1_answersOf_4 (by decide) ?_
  refine r_istore (lv' := [(4, .int (0 : Int32)), (3, .int v0), (2, .int (0 : Int32)), (0, .int v0), (1, .int v1)]) C dX1_answersOf_5 (by decide) rfl rfl ?_
  obtain ⟨y1, hl7, hf0⟩ := ob hf0
  have L7 : ∀ (n : Nat) (t2 : Int32) (t3 : Int32) (t4 : Int32), whileL n (fun q : Int32 × Int32 × Int32 => f_X1_answersOf_b7 h v1 q.1 q.2.1 q.2.2) (t2, t3, t4) = some y1 → gW p l e (rmO 0 0 0) s m args below meth c (MQ below (eQ D cA B Hb h (some (.int out))) args s 0 0 (fun q => B ≤ q)) D cA B Hb 5 h 7 [(1, .int v1), (2, .int t2), (3, .int t3), (4, .int t4)] [] 0 0 := by
    intro n
    induction n with
    | zero => intro t2 t3 t4 hz; cases hz
    | succ n ih7 =>
      intro t2 t3 t4 hz
      obtain ⟨x7, hf1, hk7⟩ := wl hz
      replace hf1 : f_X1_answersOf_b7 h v1 t2 t3 t4 = some x7 := hf1
      unfold f_X1_answersOf_b7 at hf1
      have J31 : ∀ (t5 : Int32) (t6 : Int32) (t7 : Int32), f_X1_answersOf_j31 h v1 t5 t6 t7 = some x7 → gW p l e (rmO 0 0 0) s m args below meth c (MQ below (eQ D cA B Hb h (some (.int out))) args s 0 0 (fun q => B ≤ q)) D cA B Hb 5 h 31 [(1, .int v1), (2, .int t5), (3, .int t6), (4, .int t7)] [] 0 0 := by
        intro t5 t6 t7 hf1
        unfold f_X1_answersOf_j31 at hf1
        refine r_iload_n C dX1_answersOf_31 rfl ?_
        refine r_iconst (v := 5) C dX1_answersOf_32 (by decide) ?_
        refine r_ishr C dX1_answersOf_33 ?_
        obtain ⟨t8, e9, hf1⟩ := ob hf1
        refine r_istore_n (lv' := [(3, .int t8), (1, .int v1), (2, .int t5), (4, .int t7)]) C dX1_answersOf_34 (by decide) e9 rfl ?_
        obtain ⟨t10, e11, hf1⟩ := ob hf1
        refine r_iinc (lv' := [(4, .int t10), (3, .int t8), (1, .int v1), (2, .int t5)]) C dX1_answersOf_35 rfl e11 (by decide) rfl ?_
        refine r_goto (tgt := 7) C dX1_answersOf_38 (by decide) ?_
        obtain rfl := so hf1
        refine r_subk [2, 3, 1, 0] (lv' := [(1, .int v1), (2, .int t5), (3, .int t8), (4, .int t10)]) rfl ?_
        exact ih7 t5 t8 t10 hk7
      refine r_iload C dX1_answersOf_7 rfl ?_
      refine r_iconst (v := 4) C dX1_answersOf_9 (by decide) ?_
      refine r_icmp_ge (tgt := 41) C dX1_answersOf_10 (by decide) (fun c12 => ?_) (fun c12 => ?_)
      · rw [if_pos c12] at hf1
        obtain rfl := so hf1
        obtain rfl := so (show some t2 = some y1 from hk7)
        refine r_iload_n C dX1_answersOf_41 rfl ?_
        obtain rfl := so hf0
        exact r_iret C dX1_answersOf_42
      · rw [if_neg c12] at hf1
        refine r_iload_n C dX1_answersOf_13 rfl ?_
        refine r_iload C dX1_answersOf_14 rfl ?_
        refine r_ishr C dX1_answersOf_16 ?_
        refine r_iconst (v := 1) C dX1_answersOf_17 (by decide) ?_
        refine r_iand C dX1_answersOf_18 ?_
        refine r_ifeq (tgt := 31) C dX1_answersOf_19 (by decide) (fun c13 => ?_) (fun c13 => ?_)
        · rw [if_pos c13] at hf1
          exact J31 t2 t3 t4 hf1
        · rw [if_neg c13] at hf1
          refine r_iload_n C dX1_answersOf_22 rfl ?_
          refine r_iconst (v := 1) C dX1_answersOf_23 (by decide) ?_
          refine r_iload_n C dX1_answersOf_24 rfl ?_
          refine r_bipush (v := 31) C dX1_answersOf_25 (by decide) ?_
          refine r_iand C dX1_answersOf_27 ?_
          refine r_ishl C dX1_answersOf_28 ?_
          refine r_ior C dX1_answersOf_29 ?_
          obtain ⟨t14, e15, hf1⟩ := ob hf1
          refine r_istore_n (lv' := [(2, .int t14), (1, .int v1), (3, .int t3), (4, .int t4)]) C dX1_answersOf_30 (by decide) e15 rfl ?_
          refine r_subk [1, 0, 2, 3] (lv' := [(1, .int v1), (2, .int t14), (3, .int t3), (4, .int t4)]) rfl ?_
          exact J31 t14 t3 t4 hf1
  refine r_subk [4, 2, 1, 0] (lv' := [(1, .int v1), (2, .int (0 : Int32)), (3, .int v0), (4, .int (0 : Int32))]) rfl ?_
  exact L7 wN (0 : Int32) v0 (0 : Int32) hl7
def f_X2_init (h : aH) (v0 : Nat) (v1 : Nat) (v2 : Nat) : Option (aH) := bd2 (nwO h 0 5) fun t1 h2 => (f_X0_init h2 t1).bind fun h3 => (pR h3 2 v0 1 t1).bind fun h4 => bd2 (nwO h4 20 24) fun t5 h6 => (pR h6 2 v0 2 t5).bind fun h7 => bd2 (nwO h7 21 96) fun t8 h9 => (pR h9 2 v0 3 t8).bind fun h10 => bd2 (nwO h10 21 4) fun t11 h12 => (pR h12 2 v0 4 t11).bind fun h13 => bd2 (nwO h13 21 84) fun t14 h15 => (pR h15 2 v0 5 t14).bind fun h16 => (pZ h16 2 v0 7 (0 : Int32)).bind fun h17 => (pR h17 2 v0 0 v1).bind fun h18 => (pR h18 2 v0 6 v2).bind fun h19 => some h19
theorem s_X2_init {h : aH} {v0 : Nat} {v1 : Nat} {v2 : Nat} {out : aH} (hf0 : f_X2_init h v0 v1 v2 = some out) : EV 2 yX2_init cX2_init 3 none h [.ref v0, .ref v1, .ref v2] none out 9 749 := by
  refine EV.of (own := RX2) (lv0 := [(0, .ref v0), (1, .ref v1), (2, .ref v2)]) (by decide +kernel) rfl rfl (Nat.le_of_ble_eq_true rfl) ?_
  intro p l e s m args below meth c D cA B Hb C hin
  unfold f_X2_init at hf0
  refine r_aload_n C dX2_init_0 rfl ?_
  refine r_obj C lk_X2_3 dX2_init_1 ⟨Nat.le_of_ble_eq_true rfl, Nat.le_of_ble_eq_true rfl⟩ (Nat.le_of_ble_eq_true rfl) ?_
  refine r_aload_n C dX2_init_4 rfl ?_
  obtain ⟨t1, h2, e3, hf0⟩ := ob2 hf0
  refine r_newE C nk_X2_9 dX2_init_5 ⟨Nat.le_of_ble_eq_true rfl, Nat.le_of_ble_eq_true rfl⟩ e3 ?_
  refine r_dup C dX2_init_8 rfl ?_
  obtain ⟨h4, e5, hf0⟩ := ob hf0
  refine r_callIN (rest := [.ref t1, .ref v0]) C (s_X0_init e5) mk_X0_init rfl im_X0_init ln_X2_11 rfl rfl dX2_init_9 (Nat.le_of_ble_eq_true rfl) ⟨Nat.le_of_ble_eq_true rfl, Nat.le_of_ble_eq_true rfl⟩ ⟨Nat.le_of_ble_eq_true rfl, Nat.le_of_ble_eq_true rfl⟩ ?_
  obtain ⟨h6, e7, hf0⟩ := ob hf0
  refine r_putFR C fk_X2_12 ⟨_, _, rfl⟩ (Or.inl ⟨_, rfl⟩) hin dX2_init_12 e7 ?_
  refine r_aload_n C dX2_init_15 rfl ?_
  refine r_bipush (v := 24) C dX2_init_16 (by decide) ?_
  obtain ⟨t8, h9, e10, hf0⟩ := ob2 hf0
  refine r_newIE C dX2_init_18 (by decide) (by decide) (by decide) ⟨Nat.le_of_ble_eq_true rfl, Nat.le_of_ble_eq_true rfl⟩ e10 ?_
  obtain ⟨h11, e12, hf0⟩ := ob hf0
  refine r_putFR C fk_X2_18 ⟨_, _, rfl⟩ (Or.inr ⟨_, rfl⟩) hin dX2_init_20 e12 ?_
  refine r_aload_n C dX2_init_23 rfl ?_
  refine r_bipush (v := 96) C dX2_init_24 (by decide) ?_
  obtain ⟨t13, h14, e15, hf0⟩ := ob2 hf0
  refine r_newJE C dX2_init_26 (by decide) (by decide) (by decide) ⟨Nat.le_of_ble_eq_true rfl, Nat.le_of_ble_eq_true rfl⟩ e15 ?_
  obtain ⟨h16, e17, hf0⟩ := ob hf0
  refine r_putFR C fk_X2_22 ⟨_, _, rfl⟩ (Or.inr ⟨_, rfl⟩) hin dX2_init_28 e17 ?_
  refine r_aload_n C dX2_init_31 rfl ?_
  refine r_iconst (v := 4) C dX2_init_32 (by decide) ?_
  obtain ⟨t18, h19, e20, hf0⟩ := ob2 hf0
  refine r_newJE C dX2_init_33 (by decide) (by decide) (by decide) ⟨Nat.le_of_ble_eq_true rfl, Nat.le_of_ble_eq_true rfl⟩ e20 ?_
  obtain ⟨h21, e22, hf0⟩ := ob hf0
  refine r_putFR C fk_X2_26 ⟨_, _, rfl⟩ (Or.inr ⟨_, rfl⟩) hin dX2_init_35 e22 ?_
  refine r_aload_n C dX2_init_38 rfl ?_
  refine r_bipush (v := 84) C dX2_init_39 (by decide) ?_
  obtain ⟨t23, h24, e25, hf0⟩ := ob2 hf0
  refine r_newJE C dX2_init_41 (by decide) (by decide) (by decide) ⟨Nat.le_of_ble_eq_true rfl, Nat.le_of_ble_eq_true rfl⟩ e25 ?_
  obtain ⟨h26, e27, hf0⟩ := ob hf0
  refine r_putFR C fk_X2_29 ⟨_, _, rfl⟩ (Or.inr ⟨_, rfl⟩) hin dX2_init_43 e27 ?_
  refine r_aload_n C dX2_init_46 rfl ?_
  refine r_iconst (v := 0) C dX2_init_47 (by decide) ?_
  obtain ⟨h28, e29, hf0⟩ := ob hf0
  refine r_putZ C fk_X2_32 dX2_init_48 e29 ?_
  refine r_aload_n C dX2_init_51 rfl ?_
  refine r_aload_n C dX2_init_52 rfl ?_
  obtain ⟨h30, e31, hf0⟩ := ob hf0
  refine r_putFR C fk_X2_36 ⟨_, _, rfl⟩ (Or.inl ⟨_, rfl⟩) hin dX2_init_53 e31 ?_
  refine r_aload_n C dX2_init_56 rfl ?_
  refine r_aload_n C dX2_init_57 rfl ?_
  obtain ⟨h32, e33, hf0⟩ := ob hf0
  refine r_putR C fk_X2_40 (Or.inl ⟨_, rfl⟩) dX2_init_58 e33 ?_
  obtain rfl := so hf0
  exact r_vret C dX2_init_61
def f_X4_refuseHere_j14 (h : aH) (v0 : Nat) (s0 : Nat) (s1 : Int32) : Option (Int32 × aH) := (pI h 4 s0 12 s1).bind fun h1 => (gR h1 4 v0 3).bind fun t2 => (gI h1 4 v0 9).bind fun t3 => (lI h1 t2 t3).bind fun t4 => (pI h1 4 v0 13 t4).bind fun h5 => some ((0 : Int32), h5)
def f_X4_refuseHere (h : aH) (v0 : Nat) (v1 : Int32) : Option (Int32 × aH) := (gI h 4 v0 10).bind fun t6 => if t6 = (1 : Int32) then f_X4_refuseHere_j14 h v0 v0 (1 : Int32) else f_X4_refuseHere_j14 h v0 v0 v1
theorem s_X4_refuseHere {h : aH} {v0 : Nat} {v1 : Int32} {out : Int32 × aH} (hf0 : f_X4_refuseHere h v0 v1 = some out) : EV 0 yX4_refuseHere cX4_refuseHere 2 (some .boolean) h [.ref v0, .int v1] (some (.int out.1)) out.2 0 0 := by
  refine EV.of (own := RX4) (lv0 := [(0, .ref v0), (1, .int v1)]) (by decide +kernel) rfl rfl (Nat.le_of_ble_eq_true rfl) ?_
  intro p l e s m args below meth c D cA B Hb C hin
  unfold f_X4_refuseHere at hf0
  have J14 : ∀ (h1 : aH) (t2 : Nat) (t3 : Nat) (t4 : Int32), f_X4_refuseHere_j14 h1 t2 t3 t4 = some out → gW p l e (rmO 0 0 0) s m args below meth c (MQ below (eQ D cA B Hb out.2 (some (.int out.1))) args s 0 0 (fun q => B ≤ q)) D cA B Hb 2 h1 14 [(0, .ref t2)] [.int t4, .ref t3] 0 0 := by
    intro h1 t2 t3 t4 hf0
    unfold f_X4_refuseHere_j14 at hf0
    obtain ⟨h5, e6, hf0⟩ := ob hf0
    refine r_putI C fk_X4_52 dX4_refuseHere_14 e6 ?_
    refine r_aload_n C dX4_refuseHere_17 rfl ?_
    refine r_aload_n C dX4_refuseHere_18 rfl ?_
    obtain ⟨t7, e8, hf0⟩ := ob hf0
    refine r_getR C fk_X4_23 rfl dX4_refuseHere_19 e8 ?_
    refine r_aload_n C dX4_refuseHere_22 rfl ?_
    obtain ⟨t9, e10, hf0⟩ := ob hf0
    refine r_getI C fk_X4_42 rfl dX4_refuseHere_23 e10 ?_
    obtain ⟨t11, e12, hf0⟩ := ob hf0
    refine r_ldI C dX4_refuseHere_26 e12 ?_
    obtain ⟨h13, e14, hf0⟩ := ob hf0
    refine r_putI C fk_X4_55 dX4_refuseHere_27 e14 ?_
    refine r_iconst (v := 0) C dX4_refuseHere_30 (by decide) ?_
    obtain rfl := so hf0
    exact r_zret C dX4_refuseHere_31 (Or.inl rfl)
  refine r_aload_n C dX4_refuseHere_0 rfl ?_
  refine r_aload_n C dX4_refuseHere_1 rfl ?_
  obtain ⟨t15, e16, hf0⟩ := ob hf0
  refine r_getI C fk_X4_45 rfl dX4_refuseHere_2 e16 ?_
  refine r_iconst (v := 1) C dX4_refuseHere_5 (by decide) ?_
  refine r_icmp_ne (tgt := 13) C dX4_refuseHere_6 (by decide) (fun c17 => ?_) (fun c17 => ?_)
  · rw [if_neg c17] at hf0
    refine r_iload_n C dX4_refuseHere_13 rfl ?_
    refine r_subk [0] (lv' := [(0, .ref v0)]) rfl ?_
    exact J14 h v0 v0 v1 hf0
  · rw [if_pos c17] at hf0
    refine r_iconst (v := 1) C dX4_refuseHere_9 (by decide) ?_
    refine r_goto (tgt := 14) C dX4_refuseHere_10 (by decide) ?_
    refine r_subk [0] (lv' := [(0, .ref v0)]) rfl ?_
    exact J14 h v0 v0 (1 : Int32) hf0
def f_X4_advance_j20 (h : aH) (v0 : Nat) : Option (aH) := (gR h 4 v0 2).bind fun t1 => (gI h 4 v0 9).bind fun t2 => (lI h t1 t2).bind fun t3 => (pI h 4 v0 10 t3).bind fun h4 => (gR h4 4 v0 5).bind fun t5 => (gI h4 4 v0 9).bind fun t6 => (lJ h4 t5 t6).bind fun t7 => (pJ h4 4 v0 11 t7).bind fun h8 => some h8
def f_X4_advance (h : aH) (v0 : Nat) : Option (aH) := (gI h 4 v0 9).bind fun t9 => if (900 : Int32) ≤ t9 then f_X4_advance_j20 h v0 else (gI h 4 v0 9).bind fun t10 => (pI h 4 v0 9 (t10 + (1 : Int32))).bind fun h11 => f_X4_advance_j20 h11 v0
theorem s_X4_advance {h : aH} {v0 : Nat} {out : aH} (hf0 : f_X4_advance h v0 = some out) : EV 0 yX4_advance cX4_advance 1 none h [.ref v0] none out 0 0 := by
  refine EV.of (own := RX4) (lv0 := [(0, .ref v0)]) (by decide +kernel) rfl rfl (Nat.le_of_ble_eq_true rfl) ?_
  intro p l e s m args below meth c D cA B Hb C hin
  unfold f_X4_advance at hf0
  have J20 : ∀ (h1 : aH) (t2 : Nat), f_X4_advance_j20 h1 t2 = some out → gW p l e (rmO 0 0 0) s m args below meth c (MQ below (eQ D cA B Hb out none) args s 0 0 (fun q => B ≤ q)) D cA B Hb 1 h1 20 [(0, .ref t2)] [] 0 0 := by
    intro h1 t2 hf0
    unfold f_X4_advance_j20 at hf0
    refine r_aload_n C dX4_advance_20 rfl ?_
    refine r_aload_n C dX4_advance_21 rfl ?_
    obtain ⟨t3, e4, hf0⟩ := ob hf0
    refine r_getR C fk_X4_19 rfl dX4_advance_22 e4 ?_
    refine r_aload_n C dX4_advance_25 rfl ?_
    obtain ⟨t5, e6, hf0⟩ := ob hf0
    refine r_getI C fk_X4_42 rfl dX4_advance_26 e6 ?_
    obtain ⟨t7, e8, hf0⟩ := ob hf0
    refine r_ldI C dX4_advance_29 e8 ?_
    obtain ⟨h9, e10, hf0⟩ := ob hf0
    refine r_putI C fk_X4_45 dX4_advance_30 e10 ?_
    refine r_aload_n C dX4_advance_33 rfl ?_
    refine r_aload_n C dX4_advance_34 rfl ?_
    obtain ⟨t11, e12, hf0⟩ := ob hf0
    refine r_getR C fk_X4_29 rfl dX4_advance_35 e12 ?_
    refine r_aload_n C dX4_advance_38 rfl ?_
    obtain ⟨t13, e14, hf0⟩ := ob hf0
    refine r_getI C fk_X4_42 rfl dX4_advance_39 e14 ?_
    obtain ⟨t15, e16, hf0⟩ := ob hf0
    refine r_ldJ C dX4_advance_42 e16 ?_
    obtain ⟨h17, e18, hf0⟩ := ob hf0
    refine r_putJ C fk_X4_48 dX4_advance_43 e18 ?_
    obtain rfl := so hf0
    exact r_vret C dX4_advance_46
  refine r_aload_n C dX4_advance_0 rfl ?_
  obtain ⟨t19, e20, hf0⟩ := ob hf0
  refine r_getI C fk_X4_42 rfl dX4_advance_1 e20 ?_
  refine r_sipush (v := 900) C dX4_advance_4 (by decide) ?_
  refine r_icmp_ge (tgt := 20) C dX4_advance_7 (by decide) (fun c21 => ?_) (fun c21 => ?_)
  · rw [if_pos c21] at hf0
    exact J20 h v0 hf0
  · rw [if_neg c21] at hf0
    refine r_aload_n C dX4_advance_10 rfl ?_
    refine r_dup C dX4_advance_11 rfl ?_
    obtain ⟨t22, e23, hf0⟩ := ob hf0
    refine r_getI C fk_X4_42 rfl dX4_advance_12 e23 ?_
    refine r_iconst (v := 1) C dX4_advance_15 (by decide) ?_
    refine r_iadd C dX4_advance_16 ?_
    obtain ⟨h24, e25, hf0⟩ := ob hf0
    refine r_putI C fk_X4_42 dX4_advance_17 e25 ?_
    exact J20 h24 v0 hf0
def f_X7_isTaken_b2 (h : aH) (v0 : Nat) (v1 : Int64) (v3 : Int32) : Option ((Int32) ⊕ ((Unit) ⊕ (Unit))) := (gI h 7 v0 3).bind fun t1 => if t1 ≤ v3 then some (.inr (.inr ())) else (gR h 7 v0 0).bind fun t2 => (lJ h t2 v3).bind fun t3 => if (lg_cmp t3 v1) = 0 then some (.inr (.inl ())) else (some (v3 + (1 : Int32))).bind fun t4 => some (.inl t4)
def f_X7_isTaken_l2 (h : aH) (v0 : Nat) (v1 : Int64) (v3 : Int32) : Option ((Unit) ⊕ (Unit)) := whileL wN (fun q : Int32 => f_X7_isTaken_b2 h v0 v1 q) v3
def f_X7_isTaken (h : aH) (v0 : Nat) (v1 : Int64) : Option (Int32) := (f_X7_isTaken_l2 h v0 v1 (0 : Int32)).bind fun e => match e with | .inl _ => some (1 : Int32) | .inr _ => some (0 : Int32)
theorem s_X7_isTaken {h : aH} {v0 : Nat} {v1 : Int64} {out : Int32} (hf0 : f_X7_isTaken h v0 v1 = some out) : EV 0 yX7_isTaken cX7_isTaken 4 (some .boolean) h [.ref v0, .long v1] (some (.int out)) h 0 0 := by
  refine EV.of (own := RX7) (lv0 := [(0, .ref v0), (1, .long v1)]) (by decide +kernel) rfl rfl (Nat.le_of_ble_eq_true rfl) ?_
  intro p l e s m args below meth c D cA B Hb C hin
  unfold f_X7_isTaken at hf0
  refine r_iconst (v := 0) C dX7_isTaken_0 (by decide) ?_
  refine r_istore_n (lv' := [(3, .int (0 : Int32)), (0, .ref v0), (1, .long v1)]) C dX7_isTaken_1 (by decide) rfl rfl ?_
  obtain ⟨y1, hl2, hf0⟩ := ob hf0
  have L2 : ∀ (n : Nat) (t2 : Int32), whileL n (fun q : Int32 => f_X7_isTaken_b2 h v0 v1 q) t2 = some y1 → gW p l e (rmO 0 0 0) s m args below meth c (MQ below (eQ D cA B Hb h (some (.int out))) args s 0 0 (fun q => B ≤ q)) D cA B Hb 4 h 2 [(0, .ref v0), (1, .long v1), (3, .int t2)] [] 0 0 := by
    intro n
    induction n with
    | zero => intro t2 hz; cases hz
    | succ n ih2 =>
      intro t2 hz
      obtain ⟨x2, hf1, hk2⟩ := wl hz
      replace hf1 : f_X7_isTaken_b2 h v0 v1 t2 = some x2 := hf1
      unfold f_X7_isTaken_b2 at hf1
      refine r_iload_n C dX7_isTaken_2 rfl ?_
      refine r_aload_n C dX7_isTaken_3 rfl ?_
      obtain ⟨t3, e4, hf1⟩ := ob hf1
      refine r_getI C fk_X7_22 rfl dX7_isTaken_4 e4 ?_
      refine r_icmp_ge (tgt := 29) C dX7_isTaken_7 (by decide) (fun c5 => ?_) (fun c5 => ?_)
      · rw [if_pos c5] at hf1
        obtain rfl := so hf1
        obtain rfl := so (show some (.inr () : (Unit) ⊕ (Unit)) = some y1 from hk2)
        dsimp only at hf0
        refine r_iconst (v := 0) C dX7_isTaken_29 (by decide) ?_
        obtain rfl := so hf0
        exact r_zret C dX7_isTaken_30 (Or.inl rfl)
      · rw [if_neg c5] at hf1
        refine r_aload_n C dX7_isTaken_10 rfl ?_
        obtain ⟨t6, e7, hf1⟩ := ob hf1
        refine r_getR C fk_X7_9 rfl dX7_isTaken_11 e7 ?_
        refine r_iload_n C dX7_isTaken_14 rfl ?_
        obtain ⟨t8, e9, hf1⟩ := ob hf1
        refine r_ldJ C dX7_isTaken_15 e9 ?_
        refine r_lload_n C dX7_isTaken_16 rfl ?_
        refine r_lcmp C dX7_isTaken_17 ?_
        refine r_ifne (tgt := 23) C dX7_isTaken_18 (by decide) (fun c10 => ?_) (fun c10 => ?_)
        · rw [if_neg c10] at hf1
          obtain ⟨t11, e12, hf1⟩ := ob hf1
          refine r_iinc (lv' := [(3, .int t11), (0, .ref v0), (1, .long v1)]) C dX7_isTaken_23 rfl e12 (by decide) rfl ?_
          refine r_goto (tgt := 2) C dX7_isTaken_26 (by decide) ?_
          obtain rfl := so hf1
          refine r_subk [1, 2, 0] (lv' := [(0, .ref v0), (1, .long v1), (3, .int t11)]) rfl ?_
          exact ih2 t11 hk2
        · rw [if_pos c10] at hf1
          obtain rfl := so hf1
          obtain rfl := so (show some (.inl () : (Unit) ⊕ (Unit)) = some y1 from hk2)
          dsimp only at hf0
          refine r_iconst (v := 1) C dX7_isTaken_21 (by decide) ?_
          obtain rfl := so hf0
          exact r_zret C dX7_isTaken_22 (Or.inr rfl)
  refine r_subk [1, 2, 0] (lv' := [(0, .ref v0), (1, .long v1), (3, .int (0 : Int32))]) rfl ?_
  exact L2 wN (0 : Int32) hl2
def f_X2_isNewName (h : aH) (v0 : Nat) : Option (Int32 × aH) := (gR h 2 v0 0).bind fun t1 => (gI h 4 t1 10).bind fun t2 => if t2 = (6 : Int32) then (gR h 2 v0 6).bind fun t3 => (gR h 1 t3 0).bind fun t4 => (gR h 2 v0 0).bind fun t5 => (gJ h 4 t5 11).bind fun t6 => (ck h 7 t4).bind fun _ => (f_X7_isTaken h t4 t6).bind fun t7 => if t7 = 0 then some ((1 : Int32), h) else (gR h 2 v0 0).bind fun t8 => (ck h 4 t8).bind fun _ => bd2 (f_X4_refuseHere h t8 (3 : Int32)) fun t9 h10 => if t9 = 0 then some ((0 : Int32), h10) else some ((1 : Int32), h10) else (gR h 2 v0 0).bind fun t11 => (ck h 4 t11).bind fun _ => bd2 (f_X4_refuseHere h t11 (2 : Int32)) fun t12 h13 => (rZ t12).bind fun t14 => some (t14, h13)
theorem s_X2_isNewName {h : aH} {v0 : Nat} {out : Int32 × aH} (hf0 : f_X2_isNewName h v0 = some out) : EV 1 yX2_isNewName cX2_isNewName 1 (some .boolean) h [.ref v0] (some (.int out.1)) out.2 0 0 := by
  refine EV.of (own := RX2) (lv0 := [(0, .ref v0)]) (by decide +kernel) rfl rfl (Nat.le_of_ble_eq_true rfl) ?_
  intro p l e s m args below meth c D cA B Hb C hin
  unfold f_X2_isNewName at hf0
  refine r_aload_n C dX2_isNewName_0 rfl ?_
  obtain ⟨t1, e2, hf0⟩ := ob hf0
  refine r_getR C fk_X2_36 rfl dX2_isNewName_1 e2 ?_
  obtain ⟨t3, e4, hf0⟩ := ob hf0
  refine r_getI C fk_X2_55 rfl dX2_isNewName_4 e4 ?_
  refine r_bipush (v := 6) C dX2_isNewName_7 (by decide) ?_
  refine r_icmp_eq (tgt := 21) C dX2_isNewName_9 (by decide) (fun c5 => ?_) (fun c5 => ?_)
  · rw [if_pos c5] at hf0
    refine r_aload_n C dX2_isNewName_21 rfl ?_
    obtain ⟨t6, e7, hf0⟩ := ob hf0
    refine r_getR C fk_X2_40 rfl dX2_isNewName_22 e7 ?_
    obtain ⟨t8, e9, hf0⟩ := ob hf0
    refine r_getR C fk_X2_116 rfl dX2_isNewName_25 e9 ?_
    refine r_aload_n C dX2_isNewName_28 rfl ?_
    obtain ⟨t10, e11, hf0⟩ := ob hf0
    refine r_getR C fk_X2_36 rfl dX2_isNewName_29 e11 ?_
    obtain ⟨t12, e13, hf0⟩ := ob hf0
    refine r_getJ C fk_X2_120 rfl dX2_isNewName_32 e13 ?_
    obtain ⟨u15, e14, hf0⟩ := ob hf0
    obtain ⟨t16, e17, hf0⟩ := ob hf0
    refine r_cV (ci := 7) (rest := []) (st2 := [.int t16]) C (s_X7_isTaken e17) mk_X7_isTaken rfl (ck_k e14) (by decide) im_X7_isTaken sl_X7_isTaken lk_X2_186 rfl rfl rfl dX2_isNewName_35 (Nat.le_of_ble_eq_true rfl) ⟨Nat.le_of_ble_eq_true rfl, Nat.le_of_ble_eq_true rfl⟩ ⟨Nat.le_of_ble_eq_true rfl, Nat.le_of_ble_eq_true rfl⟩ ?_
    refine r_ifeq (tgt := 52) C dX2_isNewName_38 (by decide) (fun c18 => ?_) (fun c18 => ?_)
    · rw [if_pos c18] at hf0
      refine r_iconst (v := 1) C dX2_isNewName_52 (by decide) ?_
      refine r_goto (tgt := 57) C dX2_isNewName_53 (by decide) ?_
      obtain rfl := so hf0
      exact r_zret C dX2_isNewName_57 (Or.inr rfl)
    · rw [if_neg c18] at hf0
      refine r_aload_n C dX2_isNewName_41 rfl ?_
      obtain ⟨t19, e20, hf0⟩ := ob hf0
      refine r_getR C fk_X2_36 rfl dX2_isNewName_42 e20 ?_
      refine r_iconst (v := 3) C dX2_isNewName_45 (by decide) ?_
      obtain ⟨u22, e21, hf0⟩ := ob hf0
      obtain ⟨t23, h24, e25, hf0⟩ := ob2 hf0
      refine r_cV (ci := 4) (rest := []) (st2 := [.int t23]) C (s_X4_refuseHere e25) mk_X4_refuseHere rfl (ck_k e21) (by decide) im_X4_refuseHere sl_X4_refuseHere lk_X2_74 rfl rfl rfl dX2_isNewName_46 (Nat.le_of_ble_eq_true rfl) ⟨Nat.le_of_ble_eq_true rfl, Nat.le_of_ble_eq_true rfl⟩ ⟨Nat.le_of_ble_eq_true rfl, Nat.le_of_ble_eq_true rfl⟩ ?_
      refine r_ifeq (tgt := 56) C dX2_isNewName_49 (by decide) (fun c26 => ?_) (fun c26 => ?_)
      · rw [if_pos c26] at hf0
        refine r_iconst (v := 0) C dX2_isNewName_56 (by decide) ?_
        obtain rfl := so hf0
        exact r_zret C dX2_isNewName_57 (Or.inl rfl)
      · rw [if_neg c26] at hf0
        refine r_iconst (v := 1) C dX2_isNewName_52 (by decide) ?_
        refine r_goto (tgt := 57) C dX2_isNewName_53 (by decide) ?_
        obtain rfl := so hf0
        exact r_zret C dX2_isNewName_57 (Or.inr rfl)
  · rw [if_neg c5] at hf0
    refine r_aload_n C dX2_isNewName_12 rfl ?_
    obtain ⟨t27, e28, hf0⟩ := ob hf0
    refine r_getR C fk_X2_36 rfl dX2_isNewName_13 e28 ?_
    refine r_iconst (v := 2) C dX2_isNewName_16 (by decide) ?_
    obtain ⟨u30, e29, hf0⟩ := ob hf0
    obtain ⟨t31, h32, e33, hf0⟩ := ob2 hf0
    refine r_cV (ci := 4) (rest := []) (st2 := [.int t31]) C (s_X4_refuseHere e33) mk_X4_refuseHere rfl (ck_k e29) (by decide) im_X4_refuseHere sl_X4_refuseHere lk_X2_74 rfl rfl rfl dX2_isNewName_17 (Nat.le_of_ble_eq_true rfl) ⟨Nat.le_of_ble_eq_true rfl, Nat.le_of_ble_eq_true rfl⟩ ⟨Nat.le_of_ble_eq_true rfl, Nat.le_of_ble_eq_true rfl⟩ ?_
    obtain ⟨t34, e35, hf0⟩ := ob hf0
    obtain ⟨rfl, e35z⟩ := rZ_k e35
    obtain rfl := so hf0
    exact r_zret C dX2_isNewName_20 e35z
def f_X7_add (h : aH) (v0 : Nat) (v1 : Int64) (v3 : Int32) (v4 : Int32) : Option (aH) := (gI h 7 v0 3).bind fun t1 => if (44 : Int32) ≤ t1 then some h else (gR h 7 v0 0).bind fun t2 => (gI h 7 v0 3).bind fun t3 => (sJ h t2 t3 v1).bind fun h4 => (gR h4 7 v0 1).bind fun t5 => (gI h4 7 v0 3).bind fun t6 => (sI h4 t5 t6 v3).bind fun h7 => (gR h7 7 v0 2).bind fun t8 => (gI h7 7 v0 3).bind fun t9 => (sI h7 t8 t9 v4).bind fun h10 => (gI h10 7 v0 3).bind fun t11 => (pI h10 7 v0 3 (t11 + (1 : Int32))).bind fun h12 => some h12
theorem s_X7_add {h : aH} {v0 : Nat} {v1 : Int64} {v3 : Int32} {v4 : Int32} {out : aH} (hf0 : f_X7_add h v0 v1 v3 v4 = some out) : EV 0 yX7_add cX7_add 5 none h [.ref v0, .long v1, .int v3, .int v4] none out 0 0 := by
  refine EV.of (own := RX7) (lv0 := [(0, .ref v0), (1, .long v1), (3, .int v3), (4, .int v4)]) (by decide +kernel) rfl rfl (Nat.le_of_ble_eq_true rfl) ?_
  intro p l e s m args below meth c D cA B Hb C hin
  unfold f_X7_add at hf0
  refine r_aload_n C dX7_add_0 rfl ?_
  obtain ⟨t1, e2, hf0⟩ := ob hf0
  refine r_getI C fk_X7_22 rfl dX7_add_1 e2 ?_
  refine r_bipush (v := 44) C dX7_add_4 (by decide) ?_
  refine r_icmp_ge (tgt := 50) C dX7_add_6 (by decide) (fun c3 => ?_) (fun c3 => ?_)
  · rw [if_pos c3] at hf0
    obtain rfl := so hf0
    exact r_vret C dX7_add_50
  · rw [if_neg c3] at hf0
    refine r_aload_n C dX7_add_9 rfl ?_
    obtain ⟨t4, e5, hf0⟩ := ob hf0
    refine r_getR C fk_X7_9 rfl dX7_add_10 e5 ?_
    refine r_aload_n C dX7_add_13 rfl ?_
    obtain ⟨t6, e7, hf0⟩ := ob hf0
    refine r_getI C fk_X7_22 rfl dX7_add_14 e7 ?_
    refine r_lload_n C dX7_add_17 rfl ?_
    obtain ⟨h8, e9, hf0⟩ := ob hf0
    refine r_stJ C dX7_add_18 e9 ?_
    refine r_aload_n C dX7_add_19 rfl ?_
    obtain ⟨t10, e11, hf0⟩ := ob hf0
    refine r_getR C fk_X7_15 rfl dX7_add_20 e11 ?_
    refine r_aload_n C dX7_add_23 rfl ?_
    obtain ⟨t12, e13, hf0⟩ := ob hf0
    refine r_getI C fk_X7_22 rfl dX7_add_24 e13 ?_
    refine r_iload_n C dX7_add_27 rfl ?_
    obtain ⟨h14, e15, hf0⟩ := ob hf0
    refine r_stI C dX7_add_28 e15 ?_
    refine r_aload_n C dX7_add_29 rfl ?_
    obtain ⟨t16, e17, hf0⟩ := ob hf0
    refine r_getR C fk_X7_19 rfl dX7_add_30 e17 ?_
    refine r_aload_n C dX7_add_33 rfl ?_
    obtain ⟨t18, e19, hf0⟩ := ob hf0
    refine r_getI C fk_X7_22 rfl dX7_add_34 e19 ?_
    refine r_iload C dX7_add_37 rfl ?_
    obtain ⟨h20, e21, hf0⟩ := ob hf0
    refine r_stI C dX7_add_39 e21 ?_
    refine r_aload_n C dX7_add_40 rfl ?_
    refine r_dup C dX7_add_41 rfl ?_
    obtain ⟨t22, e23, hf0⟩ := ob hf0
    refine r_getI C fk_X7_22 rfl dX7_add_42 e23 ?_
    refine r_iconst (v := 1) C dX7_add_45 (by decide) ?_
    refine r_iadd C dX7_add_46 ?_
    obtain ⟨h24, e25, hf0⟩ := ob hf0
    refine r_putI C fk_X7_22 dX7_add_47 e25 ?_
    obtain rfl := so hf0
    exact r_vret C dX7_add_50
def f_X2_takeNewName (h : aH) (v0 : Nat) (v1 : Int32) (v2 : Int32) : Option (Int32 × aH) := (ck h 2 v0).bind fun _ => bd2 (f_X2_isNewName h v0) fun t1 h2 => if t1 = 0 then some ((0 : Int32), h2) else (gR h2 2 v0 6).bind fun t3 => (gR h2 1 t3 0).bind fun t4 => (gR h2 2 v0 0).bind fun t5 => (gJ h2 4 t5 11).bind fun t6 => (ck h2 7 t4).bind fun _ => (f_X7_add h2 t4 t6 v1 v2).bind fun h7 => (gR h7 2 v0 0).bind fun t8 => (ck h7 4 t8).bind fun _ => (f_X4_advance h7 t8).bind fun h9 => some ((1 : Int32), h9)
theorem s_X2_takeNewName {h : aH} {v0 : Nat} {v1 : Int32} {v2 : Int32} {out : Int32 × aH} (hf0 : f_X2_takeNewName h v0 v1 v2 = some out) : EV 2 yX2_takeNewName cX2_takeNewName 3 (some .boolean) h [.ref v0, .int v1, .int v2] (some (.int out.1)) out.2 0 0 := by
  refine EV.of (own := RX2) (lv0 := [(0, .ref v0), (1, .int v1), (2, .int v2)]) (by decide +kernel) rfl rfl (Nat.le_of_ble_eq_true rfl) ?_
  intro p l e s m args below meth c D cA B Hb C hin
  unfold f_X2_takeNewName at hf0
  refine r_aload_n C dX2_takeNewName_0 rfl ?_
  obtain ⟨u2, e1, hf0⟩ := ob hf0
  obtain ⟨t3, h4, e5, hf0⟩ := ob2 hf0
  refine r_cV (ci := 2) (rest := []) (st2 := [.int t3]) C (s_X2_isNewName e5) mk_X2_isNewName rfl (ck_k e1) (by decide) im_X2_isNewName sl_X2_isNewName lk_X2_113 rfl rfl rfl dX2_takeNewName_1 (Nat.le_of_ble_eq_true rfl) ⟨Nat.le_of_ble_eq_true rfl, Nat.le_of_ble_eq_true rfl⟩ ⟨Nat.le_of_ble_eq_true rfl, Nat.le_of_ble_eq_true rfl⟩ ?_
  refine r_ifne (tgt := 9) C dX2_takeNewName_4 (by decide) (fun c6 => ?_) (fun c6 => ?_)
  · rw [if_neg c6] at hf0
    refine r_aload_n C dX2_takeNewName_9 rfl ?_
    obtain ⟨t7, e8, hf0⟩ := ob hf0
    refine r_getR C fk_X2_40 rfl dX2_takeNewName_10 e8 ?_
    obtain ⟨t9, e10, hf0⟩ := ob hf0
    refine r_getR C fk_X2_116 rfl dX2_takeNewName_13 e10 ?_
    refine r_aload_n C dX2_takeNewName_16 rfl ?_
    obtain ⟨t11, e12, hf0⟩ := ob hf0
    refine r_getR C fk_X2_36 rfl dX2_takeNewName_17 e12 ?_
    obtain ⟨t13, e14, hf0⟩ := ob hf0
    refine r_getJ C fk_X2_120 rfl dX2_takeNewName_20 e14 ?_
    refine r_iload_n C dX2_takeNewName_23 rfl ?_
    refine r_iload_n C dX2_takeNewName_24 rfl ?_
    obtain ⟨u16, e15, hf0⟩ := ob hf0
    obtain ⟨h17, e18, hf0⟩ := ob hf0
    refine r_cV (ci := 7) (rest := []) (st2 := []) C (s_X7_add e18) mk_X7_add rfl (ck_k e15) (by decide) im_X7_add sl_X7_add lk_X2_124 rfl rfl rfl dX2_takeNewName_25 (Nat.le_of_ble_eq_true rfl) ⟨Nat.le_of_ble_eq_true rfl, Nat.le_of_ble_eq_true rfl⟩ ⟨Nat.le_of_ble_eq_true rfl, Nat.le_of_ble_eq_true rfl⟩ ?_
    refine r_aload_n C dX2_takeNewName_28 rfl ?_
    obtain ⟨t19, e20, hf0⟩ := ob hf0
    refine r_getR C fk_X2_36 rfl dX2_takeNewName_29 e20 ?_
    obtain ⟨u22, e21, hf0⟩ := ob hf0
    obtain ⟨h23, e24, hf0⟩ := ob hf0
    refine r_cV (ci := 4) (rest := []) (st2 := []) C (s_X4_advance e24) mk_X4_advance rfl (ck_k e21) (by decide) im_X4_advance sl_X4_advance lk_X2_91 rfl rfl rfl dX2_takeNewName_32 (Nat.le_of_ble_eq_true rfl) ⟨Nat.le_of_ble_eq_true rfl, Nat.le_of_ble_eq_true rfl⟩ ⟨Nat.le_of_ble_eq_true rfl, Nat.le_of_ble_eq_true rfl⟩ ?_
    refine r_iconst (v := 1) C dX2_takeNewName_35 (by decide) ?_
    obtain rfl := so hf0
    exact r_zret C dX2_takeNewName_36 (Or.inr rfl)
  · rw [if_pos c6] at hf0
    refine r_iconst (v := 0) C dX2_takeNewName_7 (by decide) ?_
    obtain rfl := so hf0
    exact r_zret C dX2_takeNewName_8 (Or.inl rfl)
def f_X4_take (h : aH) (v0 : Nat) (v1 : Int32) : Option (Int32 × aH) := (gI h 4 v0 10).bind fun t1 => if t1 = v1 then (ck h 4 v0).bind fun _ => (f_X4_advance h v0).bind fun h2 => some ((1 : Int32), h2) else (ck h 4 v0).bind fun _ => bd2 (f_X4_refuseHere h v0 (2 : Int32)) fun t3 h4 => (rZ t3).bind fun t5 => some (t5, h4)
theorem s_X4_take {h : aH} {v0 : Nat} {v1 : Int32} {out : Int32 × aH} (hf0 : f_X4_take h v0 v1 = some out) : EV 1 yX4_take cX4_take 2 (some .boolean) h [.ref v0, .int v1] (some (.int out.1)) out.2 0 0 := by
  refine EV.of (own := RX4) (lv0 := [(0, .ref v0), (1, .int v1)]) (by decide +kernel) rfl rfl (Nat.le_of_ble_eq_true rfl) ?_
  intro p l e s m args below meth c D cA B Hb C hin
  unfold f_X4_take at hf0
  refine r_aload_n C dX4_take_0 rfl ?_
  obtain ⟨t1, e2, hf0⟩ := ob hf0
  refine r_getI C fk_X4_45 rfl dX4_take_1 e2 ?_
  refine r_iload_n C dX4_take_4 rfl ?_
  refine r_icmp_eq (tgt := 14) C dX4_take_5 (by decide) (fun c3 => ?_) (fun c3 => ?_)
  · rw [if_pos c3] at hf0
    refine r_aload_n C dX4_take_14 rfl ?_
    obtain ⟨u5, e4, hf0⟩ := ob hf0
    obtain ⟨h6, e7, hf0⟩ := ob hf0
    refine r_cV (ci := 4) (rest := []) (st2 := []) C (s_X4_advance e7) mk_X4_advance rfl (ck_k e4) (by decide) im_X4_advance sl_X4_advance lk_X4_77 rfl rfl rfl dX4_take_15 (Nat.le_of_ble_eq_true rfl) ⟨Nat.le_of_ble_eq_true rfl, Nat.le_of_ble_eq_true rfl⟩ ⟨Nat.le_of_ble_eq_true rfl, Nat.le_of_ble_eq_true rfl⟩ ?_
    refine r_iconst (v := 1) C dX4_take_18 (by decide) ?_
    obtain rfl := so hf0
    exact r_zret C dX4_take_19 (Or.inr rfl)
  · rw [if_neg c3] at hf0
    refine r_aload_n C dX4_take_8 rfl ?_
    refine r_iconst (v := 2) C dX4_take_9 (by decide) ?_
    obtain ⟨u9, e8, hf0⟩ := ob hf0
    obtain ⟨t10, h11, e12, hf0⟩ := ob2 hf0
    refine r_cV (ci := 4) (rest := []) (st2 := [.int t10]) C (s_X4_refuseHere e12) mk_X4_refuseHere rfl (ck_k e8) (by decide) im_X4_refuseHere sl_X4_refuseHere lk_X4_99 rfl rfl rfl dX4_take_10 (Nat.le_of_ble_eq_true rfl) ⟨Nat.le_of_ble_eq_true rfl, Nat.le_of_ble_eq_true rfl⟩ ⟨Nat.le_of_ble_eq_true rfl, Nat.le_of_ble_eq_true rfl⟩ ?_
    obtain ⟨t13, e14, hf0⟩ := ob hf0
    obtain ⟨rfl, e14z⟩ := rZ_k e14
    obtain rfl := so hf0
    exact r_zret C dX4_take_13 e14z
def f_X4_takeNumber_j36 (h : aH) (v0 : Nat) : Option (Int32 × aH) := (ck h 4 v0).bind fun _ => bd2 (f_X4_refuseHere h v0 (4 : Int32)) fun t1 h2 => some ((-1 : Int32), h2)
def f_X4_takeNumber (h : aH) (v0 : Nat) (v1 : Int32) (v2 : Int32) : Option (Int32 × aH) := (gI h 4 v0 10).bind fun t3 => if t3 = (2 : Int32) then (gR h 4 v0 4).bind fun t4 => (gI h 4 v0 9).bind fun t5 => (lI h t4 t5).bind fun t6 => if t6 < v1 then f_X4_takeNumber_j36 h v0 else if t6 ≤ v2 then (ck h 4 v0).bind fun _ => (f_X4_advance h v0).bind fun h7 => some (t6, h7) else f_X4_takeNumber_j36 h v0 else (ck h 4 v0).bind fun _ => bd2 (f_X4_refuseHere h v0 (2 : Int32)) fun t8 h9 => some ((-1 : Int32), h9)
theorem s_X4_takeNumber {h : aH} {v0 : Nat} {v1 : Int32} {v2 : Int32} {out : Int32 × aH} (hf0 : f_X4_takeNumber h v0 v1 v2 = some out) : EV 1 yX4_takeNumber cX4_takeNumber 4 (some .int) h [.ref v0, .int v1, .int v2] (some (.int out.1)) out.2 0 0 := by
  refine EV.of (own := RX4) (lv0 := [(0, .ref v0), (1, .int v1), (2, .int v2)]) (by decide +kernel) rfl rfl (Nat.le_of_ble_eq_true rfl) ?_
  intro p l e s m args below meth c D cA B Hb C hin
  unfold f_X4_takeNumber at hf0
  have J36 : ∀ (h1 : aH) (t2 : Nat), f_X4_takeNumber_j36 h1 t2 = some out → gW p l e (rmO 1 0 0) s m args below meth c (MQ below (eQ D cA B Hb out.2 (some (.int out.1))) args s 0 0 (fun q => B ≤ q)) D cA B Hb 4 h1 36 [(0, .ref t2)] [] 0 0 := by
    intro h1 t2 hf0
    unfold f_X4_takeNumber_j36 at hf0
    refine r_aload_n C dX4_takeNumber_36 rfl ?_
    refine r_iconst (v := 4) C dX4_takeNumber_37 (by decide) ?_
    obtain ⟨u4, e3, hf0⟩ := ob hf0
    obtain ⟨t5, h6, e7, hf0⟩ := ob2 hf0
    refine r_cV (ci := 4) (rest := []) (st2 := [.int t5]) C (s_X4_refuseHere e7) mk_X4_refuseHere rfl (ck_k e3) (by decide) im_X4_refuseHere sl_X4_refuseHere lk_X4_99 rfl rfl rfl dX4_takeNumber_38 (Nat.le_of_ble_eq_true rfl) ⟨Nat.le_of_ble_eq_true rfl, Nat.le_of_ble_eq_true rfl⟩ ⟨Nat.le_of_ble_eq_true rfl, Nat.le_of_ble_eq_true rfl⟩ ?_
    refine r_pop C dX4_takeNumber_41 rfl ?_
    refine r_iconst (v := -1) C dX4_takeNumber_42 (by decide) ?_
    obtain rfl := so hf0
    exact r_iret C dX4_takeNumber_43
  refine r_aload_n C dX4_takeNumber_0 rfl ?_
  obtain ⟨t8, e9, hf0⟩ := ob hf0
  refine r_getI C fk_X4_45 rfl dX4_takeNumber_1 e9 ?_
  refine r_iconst (v := 2) C dX4_takeNumber_4 (by decide) ?_
  refine r_icmp_eq (tgt := 16) C dX4_takeNumber_5 (by decide) (fun c10 => ?_) (fun c10 => ?_)
  · rw [if_pos c10] at hf0
    refine r_aload_n C dX4_takeNumber_16 rfl ?_
    obtain ⟨t11, e12, hf0⟩ := ob hf0
    refine r_getR C fk_X4_26 rfl dX4_takeNumber_17 e12 ?_
    refine r_aload_n C dX4_takeNumber_20 rfl ?_
    obtain ⟨t13, e14, hf0⟩ := ob hf0
    refine r_getI C fk_X4_42 rfl dX4_takeNumber_21 e14 ?_
    obtain ⟨t15, e16, hf0⟩ := ob hf0
    refine r_ldI C dX4_takeNumber_24 e16 ?_
    refine r_istore_n (lv' := [(3, .int t15), (0, .ref v0), (1, .int v1), (2, .int v2)]) C dX4_takeNumber_25 (by decide) rfl rfl ?_
    refine r_iload_n C dX4_takeNumber_26 rfl ?_
    refine r_iload_n C dX4_takeNumber_27 rfl ?_
    refine r_icmp_lt (tgt := 36) C dX4_takeNumber_28 (by decide) (fun c17 => ?_) (fun c17 => ?_)
    · rw [if_pos c17] at hf0
      refine r_subk [1] (lv' := [(0, .ref v0)]) rfl ?_
      exact J36 h v0 hf0
    · rw [if_neg c17] at hf0
      refine r_iload_n C dX4_takeNumber_31 rfl ?_
      refine r_iload_n C dX4_takeNumber_32 rfl ?_
      refine r_icmp_le (tgt := 44) C dX4_takeNumber_33 (by decide) (fun c18 => ?_) (fun c18 => ?_)
      · rw [if_pos c18] at hf0
        refine r_aload_n C dX4_takeNumber_44 rfl ?_
        obtain ⟨u20, e19, hf0⟩ := ob hf0
        obtain ⟨h21, e22, hf0⟩ := ob hf0
        refine r_cV (ci := 4) (rest := []) (st2 := []) C (s_X4_advance e22) mk_X4_advance rfl (ck_k e19) (by decide) im_X4_advance sl_X4_advance lk_X4_77 rfl rfl rfl dX4_takeNumber_45 (Nat.le_of_ble_eq_true rfl) ⟨Nat.le_of_ble_eq_true rfl, Nat.le_of_ble_eq_true rfl⟩ ⟨Nat.le_of_ble_eq_true rfl, Nat.le_of_ble_eq_true rfl⟩ ?_
        refine r_iload_n C dX4_takeNumber_48 rfl ?_
        obtain rfl := so hf0
        exact r_iret C dX4_takeNumber_49
      · rw [if_neg c18] at hf0
        refine r_subk [1] (lv' := [(0, .ref v0)]) rfl ?_
        exact J36 h v0 hf0
  · rw [if_neg c10] at hf0
    refine r_aload_n C dX4_takeNumber_8 rfl ?_
    refine r_iconst (v := 2) C dX4_takeNumber_9 (by decide) ?_
    obtain ⟨u24, e23, hf0⟩ := ob hf0
    obtain ⟨t25, h26, e27, hf0⟩ := ob2 hf0
    refine r_cV (ci := 4) (rest := []) (st2 := [.int t25]) C (s_X4_refuseHere e27) mk_X4_refuseHere rfl (ck_k e23) (by decide) im_X4_refuseHere sl_X4_refuseHere lk_X4_99 rfl rfl rfl dX4_takeNumber_10 (Nat.le_of_ble_eq_true rfl) ⟨Nat.le_of_ble_eq_true rfl, Nat.le_of_ble_eq_true rfl⟩ ⟨Nat.le_of_ble_eq_true rfl, Nat.le_of_ble_eq_true rfl⟩ ?_
    refine r_pop C dX4_takeNumber_13 rfl ?_
    refine r_iconst (v := -1) C dX4_takeNumber_14 (by decide) ?_
    obtain rfl := so hf0
    exact r_iret C dX4_takeNumber_15
def f_X2_readValue_j128 (h : aH) (v0 : Nat) : Option (Int32 × aH) := (gR h 2 v0 0).bind fun t1 => (gI h 4 t1 12).bind fun t2 => if t2 = 0 then some ((1 : Int32), h) else some ((0 : Int32), h)
def f_X2_readValue (h : aH) (v0 : Nat) (v1 : Int32) : Option (Int32 × aH) := (ck h 2 v0).bind fun _ => bd2 (f_X2_isNewName h v0) fun t3 h4 => if t3 = 0 then some ((0 : Int32), h4) else if v1 < (6 : Int32) then (gR h4 2 v0 6).bind fun t5 => (gI h4 1 t5 13).bind fun t6 => (gR h4 2 v0 6).bind fun t7 => (gR h4 1 t7 0).bind fun t8 => (gR h4 2 v0 0).bind fun t9 => (gJ h4 4 t9 11).bind fun t10 => (ck h4 7 t8).bind fun _ => (f_X7_add h4 t8 t10 (1 : Int32) t6).bind fun h11 => (gR h11 2 v0 6).bind fun t12 => (gR h11 1 t12 3).bind fun t13 => (gR h11 2 v0 6).bind fun t14 => (gI h11 1 t14 12).bind fun t15 => (sI h11 t13 t6 t15).bind fun h16 => (gR h16 2 v0 6).bind fun t17 => (gR h16 1 t17 4).bind fun t18 => (sI h16 t18 t6 (1 : Int32)).bind fun h19 => (gR h19 2 v0 6).bind fun t20 => (gI h19 1 t20 13).bind fun t21 => (pI h19 1 t20 13 (t21 + (1 : Int32))).bind fun h22 => (gR h22 2 v0 0).bind fun t23 => (ck h22 4 t23).bind fun _ => (f_X4_advance h22 t23).bind fun h24 => (gR h24 2 v0 0).bind fun t25 => (gI h24 4 t25 10).bind fun t26 => if t26 = (2 : Int32) then (gR h24 2 v0 6).bind fun t27 => (gR h24 1 t27 4).bind fun t28 => (gR h24 2 v0 0).bind fun t29 => (ck h24 4 t29).bind fun _ => bd2 (f_X4_takeNumber h24 t29 (1 : Int32) (9 : Int32)) fun t30 h31 => (sI h31 t28 t6 t30).bind fun h32 => f_X2_readValue_j128 h32 v0 else f_X2_readValue_j128 h24 v0 else (gR h4 2 v0 0).bind fun t33 => (ck h4 4 t33).bind fun _ => bd2 (f_X4_refuseHere h4 t33 (6 : Int32)) fun t34 h35 => (rZ t34).bind fun t36 => some (t36, h35)
theorem s_X2_readValue {h : aH} {v0 : Nat} {v1 : Int32} {out : Int32 × aH} (hf0 : f_X2_readValue h v0 v1 = some out) : EV 2 yX2_readValue cX2_readValue 3 (some .boolean) h [.ref v0, .int v1] (some (.int out.1)) out.2 0 0 := by
  refine EV.of (own := RX2) (lv0 := [(0, .ref v0), (1, .int v1)]) (by decide +kernel) rfl rfl (Nat.le_of_ble_eq_true rfl) ?_
  intro p l e s m args below meth c D cA B Hb C hin
  unfold f_X2_readValue at hf0
  have J128 : ∀ (h1 : aH) (t2 : Nat), f_X2_readValue_j128 h1 t2 = some out → gW p l e (rmO 2 0 0) s m args below meth c (MQ below (eQ D cA B Hb out.2 (some (.int out.1))) args s 0 0 (fun q => B ≤ q)) D cA B Hb 3 h1 128 [(0, .ref t2)] [] 0 0 := by
    intro h1 t2 hf0
    unfold f_X2_readValue_j128 at hf0
    refine r_aload_n C dX2_readValue_128 rfl ?_
    obtain ⟨t3, e4, hf0⟩ := ob hf0
    refine r_getR C fk_X2_36 rfl dX2_readValue_129 e4 ?_
    obtain ⟨t5, e6, hf0⟩ := ob hf0
    refine r_getI C fk_X2_140 rfl dX2_readValue_132 e6 ?_
    refine r_ifne (tgt := 142) C dX2_readValue_135 (by decide) (fun c7 => ?_) (fun c7 => ?_)
    · rw [if_neg c7] at hf0
      refine r_iconst (v := 0) C dX2_readValue_142 (by decide) ?_
      obtain rfl := so hf0
      exact r_zret C dX2_readValue_143 (Or.inl rfl)
    · rw [if_pos c7] at hf0
      refine r_iconst (v := 1) C dX2_readValue_138 (by decide) ?_
      refine r_goto (tgt := 143) C dX2_readValue_139 (by decide) ?_
      obtain rfl := so hf0
      exact r_zret C dX2_readValue_143 (Or.inr rfl)
  refine r_aload_n C dX2_readValue_0 rfl ?_
  obtain ⟨u9, e8, hf0⟩ := ob hf0
  obtain ⟨t10, h11, e12, hf0⟩ := ob2 hf0
  refine r_cV (ci := 2) (rest := []) (st2 := [.int t10]) C (s_X2_isNewName e12) mk_X2_isNewName rfl (ck_k e8) (by decide) im_X2_isNewName sl_X2_isNewName lk_X2_113 rfl rfl rfl dX2_readValue_1 (Nat.le_of_ble_eq_true rfl) ⟨Nat.le_of_ble_eq_true rfl, Nat.le_of_ble_eq_true rfl⟩ ⟨Nat.le_of_ble_eq_true rfl, Nat.le_of_ble_eq_true rfl⟩ ?_
  refine r_ifne (tgt := 9) C dX2_readValue_4 (by decide) (fun c13 => ?_) (fun c13 => ?_)
  · rw [if_neg c13] at hf0
    refine r_iload_n C dX2_readValue_9 rfl ?_
    refine r_bipush (v := 6) C dX2_readValue_10 (by decide) ?_
    refine r_icmp_lt (tgt := 25) C dX2_readValue_12 (by decide) (fun c14 => ?_) (fun c14 => ?_)
    · rw [if_pos c14] at hf0
      refine r_aload_n C dX2_readValue_25 rfl ?_
      obtain ⟨t15, e16, hf0⟩ := ob hf0
      refine r_getR C fk_X2_40 rfl dX2_readValue_26 e16 ?_
      obtain ⟨t17, e18, hf0⟩ := ob hf0
      refine r_getI C fk_X2_104 rfl dX2_readValue_29 e18 ?_
      refine r_istore_n (lv' := [(2, .int t17), (0, .ref v0), (1, .int v1)]) C dX2_readValue_32 (by decide) rfl rfl ?_
      refine r_aload_n C dX2_readValue_33 rfl ?_
      obtain ⟨t19, e20, hf0⟩ := ob hf0
      refine r_getR C fk_X2_40 rfl dX2_readValue_34 e20 ?_
      obtain ⟨t21, e22, hf0⟩ := ob hf0
      refine r_getR C fk_X2_116 rfl dX2_readValue_37 e22 ?_
      refine r_aload_n C dX2_readValue_40 rfl ?_
      obtain ⟨t23, e24, hf0⟩ := ob hf0
      refine r_getR C fk_X2_36 rfl dX2_readValue_41 e24 ?_
      obtain ⟨t25, e26, hf0⟩ := ob hf0
      refine r_getJ C fk_X2_120 rfl dX2_readValue_44 e26 ?_
      refine r_iconst (v := 1) C dX2_readValue_47 (by decide) ?_
      refine r_iload_n C dX2_readValue_48 rfl ?_
      obtain ⟨u28, e27, hf0⟩ := ob hf0
      obtain ⟨h29, e30, hf0⟩ := ob hf0
      refine r_cV (ci := 7) (rest := []) (st2 := []) C (s_X7_add e30) mk_X7_add rfl (ck_k e27) (by decide) im_X7_add sl_X7_add lk_X2_124 rfl rfl rfl dX2_readValue_49 (Nat.le_of_ble_eq_true rfl) ⟨Nat.le_of_ble_eq_true rfl, Nat.le_of_ble_eq_true rfl⟩ ⟨Nat.le_of_ble_eq_true rfl, Nat.le_of_ble_eq_true rfl⟩ ?_
      refine r_aload_n C dX2_readValue_52 rfl ?_
      obtain ⟨t31, e32, hf0⟩ := ob hf0
      refine r_getR C fk_X2_40 rfl dX2_readValue_53 e32 ?_
      obtain ⟨t33, e34, hf0⟩ := ob hf0
      refine r_getR C fk_X2_130 rfl dX2_readValue_56 e34 ?_
      refine r_iload_n C dX2_readValue_59 rfl ?_
      refine r_aload_n C dX2_readValue_60 rfl ?_
      obtain ⟨t35, e36, hf0⟩ := ob hf0
      refine r_getR C fk_X2_40 rfl dX2_readValue_61 e36 ?_
      obtain ⟨t37, e38, hf0⟩ := ob hf0
      refine r_getI C fk_X2_85 rfl dX2_readValue_64 e38 ?_
      obtain ⟨h39, e40, hf0⟩ := ob hf0
      refine r_stI C dX2_readValue_67 e40 ?_
      refine r_aload_n C dX2_readValue_68 rfl ?_
      obtain ⟨t41, e42, hf0⟩ := ob hf0
      refine r_getR C fk_X2_40 rfl dX2_readValue_69 e42 ?_
      obtain ⟨t43, e44, hf0⟩ := ob hf0
      refine r_getR C fk_X2_133 rfl dX2_readValue_72 e44 ?_
      refine r_iload_n C dX2_readValue_75 rfl ?_
      refine r_iconst (v := 1) C dX2_readValue_76 (by decide) ?_
      obtain ⟨h45, e46, hf0⟩ := ob hf0
      refine r_stI C dX2_readValue_77 e46 ?_
      refine r_aload_n C dX2_readValue_78 rfl ?_
      obtain ⟨t47, e48, hf0⟩ := ob hf0
      refine r_getR C fk_X2_40 rfl dX2_readValue_79 e48 ?_
      refine r_dup C dX2_readValue_82 rfl ?_
      obtain ⟨t49, e50, hf0⟩ := ob hf0
      refine r_getI C fk_X2_104 rfl dX2_readValue_83 e50 ?_
      refine r_iconst (v := 1) C dX2_readValue_86 (by decide) ?_
      refine r_iadd C dX2_readValue_87 ?_
      obtain ⟨h51, e52, hf0⟩ := ob hf0
      refine r_putI C fk_X2_104 dX2_readValue_88 e52 ?_
      refine r_aload_n C dX2_readValue_91 rfl ?_
      obtain ⟨t53, e54, hf0⟩ := ob hf0
      refine r_getR C fk_X2_36 rfl dX2_readValue_92 e54 ?_
      obtain ⟨u56, e55, hf0⟩ := ob hf0
      obtain ⟨h57, e58, hf0⟩ := ob hf0
      refine r_cV (ci := 4) (rest := []) (st2 := []) C (s_X4_advance e58) mk_X4_advance rfl (ck_k e55) (by decide) im_X4_advance sl_X4_advance lk_X2_91 rfl rfl rfl dX2_readValue_95 (Nat.le_of_ble_eq_true rfl) ⟨Nat.le_of_ble_eq_true rfl, Nat.le_of_ble_eq_true rfl⟩ ⟨Nat.le_of_ble_eq_true rfl, Nat.le_of_ble_eq_true rfl⟩ ?_
      refine r_aload_n C dX2_readValue_98 rfl ?_
      obtain ⟨t59, e60, hf0⟩ := ob hf0
      refine r_getR C fk_X2_36 rfl dX2_readValue_99 e60 ?_
      obtain ⟨t61, e62, hf0⟩ := ob hf0
      refine r_getI C fk_X2_55 rfl dX2_readValue_102 e62 ?_
      refine r_iconst (v := 2) C dX2_readValue_105 (by decide) ?_
      refine r_icmp_ne (tgt := 128) C dX2_readValue_106 (by decide) (fun c63 => ?_) (fun c63 => ?_)
      · rw [if_neg c63] at hf0
        refine r_subk [1] (lv' := [(0, .ref v0)]) rfl ?_
        exact J128 h57 v0 hf0
      · rw [if_pos c63] at hf0
        refine r_aload_n C dX2_readValue_109 rfl ?_
        obtain ⟨t64, e65, hf0⟩ := ob hf0
        refine r_getR C fk_X2_40 rfl dX2_readValue_110 e65 ?_
        obtain ⟨t66, e67, hf0⟩ := ob hf0
        refine r_getR C fk_X2_133 rfl dX2_readValue_113 e67 ?_
        refine r_iload_n C dX2_readValue_116 rfl ?_
        refine r_aload_n C dX2_readValue_117 rfl ?_
        obtain ⟨t68, e69, hf0⟩ := ob hf0
        refine r_getR C fk_X2_36 rfl dX2_readValue_118 e69 ?_
        refine r_iconst (v := 1) C dX2_readValue_121 (by decide) ?_
        refine r_bipush (v := 9) C dX2_readValue_122 (by decide) ?_
        obtain ⟨u71, e70, hf0⟩ := ob hf0
        obtain ⟨t72, h73, e74, hf0⟩ := ob2 hf0
        refine r_cV (ci := 4) (rest := [.int t17, .ref t66]) (st2 := [.int t72, .int t17, .ref t66]) C (s_X4_takeNumber e74) mk_X4_takeNumber rfl (ck_k e70) (by decide) im_X4_takeNumber sl_X4_takeNumber lk_X2_136 rfl rfl rfl dX2_readValue_124 (Nat.le_of_ble_eq_true rfl) ⟨Nat.le_of_ble_eq_true rfl, Nat.le_of_ble_eq_true rfl⟩ ⟨Nat.le_of_ble_eq_true rfl, Nat.le_of_ble_eq_true rfl⟩ ?_
        obtain ⟨h75, e76, hf0⟩ := ob hf0
        refine r_stI C dX2_readValue_127 e76 ?_
        refine r_subk [1] (lv' := [(0, .ref v0)]) rfl ?_
        exact J128 h75 v0 hf0
    · rw [if_neg c14] at hf0
      refine r_aload_n C dX2_readValue_15 rfl ?_
      obtain ⟨t77, e78, hf0⟩ := ob hf0
      refine r_getR C fk_X2_36 rfl dX2_readValue_16 e78 ?_
      refine r_bipush (v := 6) C dX2_readValue_19 (by decide) ?_
      obtain ⟨u80, e79, hf0⟩ := ob hf0
      obtain ⟨t81, h82, e83, hf0⟩ := ob2 hf0
      refine r_cV (ci := 4) (rest := []) (st2 := [.int t81]) C (s_X4_refuseHere e83) mk_X4_refuseHere rfl (ck_k e79) (by decide) im_X4_refuseHere sl_X4_refuseHere lk_X2_74 rfl rfl rfl dX2_readValue_21 (Nat.le_of_ble_eq_true rfl) ⟨Nat.le_of_ble_eq_true rfl, Nat.le_of_ble_eq_true rfl⟩ ⟨Nat.le_of_ble_eq_true rfl, Nat.le_of_ble_eq_true rfl⟩ ?_
      obtain ⟨t84, e85, hf0⟩ := ob hf0
      obtain ⟨rfl, e85z⟩ := rZ_k e85
      obtain rfl := so hf0
      exact r_zret C dX2_readValue_24 e85z
  · rw [if_pos c13] at hf0
    refine r_iconst (v := 0) C dX2_readValue_7 (by decide) ?_
    obtain rfl := so hf0
    exact r_zret C dX2_readValue_8 (Or.inl rfl)
def f_X2_closeFact_j44 (h : aH) (v0 : Nat) : Option (Int32 × aH) := (gR h 2 v0 0).bind fun t1 => (ck h 4 t1).bind fun _ => bd2 (f_X4_refuseHere h t1 (8 : Int32)) fun t2 h3 => (rZ t2).bind fun t4 => some (t4, h3)
def f_X2_closeFact (h : aH) (v0 : Nat) : Option (Int32 × aH) := (gR h 2 v0 6).bind fun t5 => (gI h 1 t5 13).bind fun t6 => (gR h 2 v0 6).bind fun t7 => (gR h 1 t7 1).bind fun t8 => (gR h 2 v0 6).bind fun t9 => (gI h 1 t9 12).bind fun t10 => (lI h t8 t10).bind fun t11 => (some (t6 - t11)).bind fun t12 => if t12 < (2 : Int32) then f_X2_closeFact_j44 h v0 else (gR h 2 v0 6).bind fun t13 => (gI h 1 t13 14).bind fun t14 => if (t14 * t12) ≤ (256 : Int32) then (gR h 2 v0 6).bind fun t15 => (gI h 1 t15 14).bind fun t16 => (pI h 1 t15 14 (t16 * t12)).bind fun h17 => (gR h17 2 v0 6).bind fun t18 => (gI h17 1 t18 12).bind fun t19 => (pI h17 1 t18 12 (t19 + (1 : Int32))).bind fun h20 => (gR h20 2 v0 6).bind fun t21 => (gR h20 1 t21 1).bind fun t22 => (gR h20 2 v0 6).bind fun t23 => (gI h20 1 t23 12).bind fun t24 => (gR h20 2 v0 6).bind fun t25 => (gI h20 1 t25 13).bind fun t26 => (sI h20 t22 t24 t26).bind fun h27 => (gR h27 2 v0 0).bind fun t28 => (ck h27 4 t28).bind fun _ => bd2 (f_X4_take h27 t28 (3 : Int32)) fun t29 h30 => (rZ t29).bind fun t31 => some (t31, h30) else f_X2_closeFact_j44 h v0
theorem s_X2_closeFact {h : aH} {v0 : Nat} {out : Int32 × aH} (hf0 : f_X2_closeFact h v0 = some out) : EV 2 yX2_closeFact cX2_closeFact 2 (some .boolean) h [.ref v0] (some (.int out.1)) out.2 0 0 := by
  refine EV.of (own := RX2) (lv0 := [(0, .ref v0)]) (by decide +kernel) rfl rfl (Nat.le_of_ble_eq_true rfl) ?_
  intro p l e s m args below meth c D cA B Hb C hin
  unfold f_X2_closeFact at hf0
  have J44 : ∀ (h1 : aH) (t2 : Nat), f_X2_closeFact_j44 h1 t2 = some out → gW p l e (rmO 2 0 0) s m args below meth c (MQ below (eQ D cA B Hb out.2 (some (.int out.1))) args s 0 0 (fun q => B ≤ q)) D cA B Hb 2 h1 44 [(0, .ref t2)] [] 0 0 := by
    intro h1 t2 hf0
    unfold f_X2_closeFact_j44 at hf0
    refine r_aload_n C dX2_closeFact_44 rfl ?_
    obtain ⟨t3, e4, hf0⟩ := ob hf0
    refine r_getR C fk_X2_36 rfl dX2_closeFact_45 e4 ?_
    refine r_bipush (v := 8) C dX2_closeFact_48 (by decide) ?_
    obtain ⟨u6, e5, hf0⟩ := ob hf0
    obtain ⟨t7, h8, e9, hf0⟩ := ob2 hf0
    refine r_cV (ci := 4) (rest := []) (st2 := [.int t7]) C (s_X4_refuseHere e9) mk_X4_refuseHere rfl (ck_k e5) (by decide) im_X4_refuseHere sl_X4_refuseHere lk_X2_74 rfl rfl rfl dX2_closeFact_50 (Nat.le_of_ble_eq_true rfl) ⟨Nat.le_of_ble_eq_true rfl, Nat.le_of_ble_eq_true rfl⟩ ⟨Nat.le_of_ble_eq_true rfl, Nat.le_of_ble_eq_true rfl⟩ ?_
    obtain ⟨t10, e11, hf0⟩ := ob hf0
    obtain ⟨rfl, e11z⟩ := rZ_k e11
    obtain rfl := so hf0
    exact r_zret C dX2_closeFact_53 e11z
  refine r_aload_n C dX2_closeFact_0 rfl ?_
  obtain ⟨t12, e13, hf0⟩ := ob hf0
  refine r_getR C fk_X2_40 rfl dX2_closeFact_1 e13 ?_
  obtain ⟨t14, e15, hf0⟩ := ob hf0
  refine r_getI C fk_X2_104 rfl dX2_closeFact_4 e15 ?_
  refine r_aload_n C dX2_closeFact_7 rfl ?_
  obtain ⟨t16, e17, hf0⟩ := ob hf0
  refine r_getR C fk_X2_40 rfl dX2_closeFact_8 e17 ?_
  obtain ⟨t18, e19, hf0⟩ := ob hf0
  refine r_getR C fk_X2_101 rfl dX2_closeFact_11 e19 ?_
  refine r_aload_n C dX2_closeFact_14 rfl ?_
  obtain ⟨t20, e21, hf0⟩ := ob hf0
  refine r_getR C fk_X2_40 rfl dX2_closeFact_15 e21 ?_
  obtain ⟨t22, e23, hf0⟩ := ob hf0
  refine r_getI C fk_X2_85 rfl dX2_closeFact_18 e23 ?_
  obtain ⟨t24, e25, hf0⟩ := ob hf0
  refine r_ldI C dX2_closeFact_21 e25 ?_
  refine r_isub C dX2_closeFact_22 ?_
  obtain ⟨t26, e27, hf0⟩ := ob hf0
  refine r_istore_n (lv' := [(1, .int t26), (0, .ref v0)]) C dX2_closeFact_23 (by decide) e27 rfl ?_
  refine r_iload_n C dX2_closeFact_24 rfl ?_
  refine r_iconst (v := 2) C dX2_closeFact_25 (by decide) ?_
  refine r_icmp_lt (tgt := 44) C dX2_closeFact_26 (by decide) (fun c28 => ?_) (fun c28 => ?_)
  · rw [if_pos c28] at hf0
    refine r_subk [1] (lv' := [(0, .ref v0)]) rfl ?_
    exact J44 h v0 hf0
  · rw [if_neg c28] at hf0
    refine r_aload_n C dX2_closeFact_29 rfl ?_
    obtain ⟨t29, e30, hf0⟩ := ob hf0
    refine r_getR C fk_X2_40 rfl dX2_closeFact_30 e30 ?_
    obtain ⟨t31, e32, hf0⟩ := ob hf0
    refine r_getI C fk_X2_143 rfl dX2_closeFact_33 e32 ?_
    refine r_iload_n C dX2_closeFact_36 rfl ?_
    refine r_imul C dX2_closeFact_37 ?_
    refine r_sipush (v := 256) C dX2_closeFact_38 (by decide) ?_
    refine r_icmp_le (tgt := 54) C dX2_closeFact_41 (by decide) (fun c33 => ?_) (fun c33 => ?_)
    · rw [if_pos c33] at hf0
      refine r_aload_n C dX2_closeFact_54 rfl ?_
      obtain ⟨t34, e35, hf0⟩ := ob hf0
      refine r_getR C fk_X2_40 rfl dX2_closeFact_55 e35 ?_
      refine r_dup C dX2_closeFact_58 rfl ?_
      obtain ⟨t36, e37, hf0⟩ := ob hf0
      refine r_getI C fk_X2_143 rfl dX2_closeFact_59 e37 ?_
      refine r_iload_n C dX2_closeFact_62 rfl ?_
      refine r_imul C dX2_closeFact_63 ?_
      obtain ⟨h38, e39, hf0⟩ := ob hf0
      refine r_putI C fk_X2_143 dX2_closeFact_64 e39 ?_
      refine r_aload_n C dX2_closeFact_67 rfl ?_
      obtain ⟨t40, e41, hf0⟩ := ob hf0
      refine r_getR C fk_X2_40 rfl dX2_closeFact_68 e41 ?_
      refine r_dup C dX2_closeFact_71 rfl ?_
      obtain ⟨t42, e43, hf0⟩ := ob hf0
      refine r_getI C fk_X2_85 rfl dX2_closeFact_72 e43 ?_
      refine r_iconst (v := 1) C dX2_closeFact_75 (by decide) ?_
      refine r_iadd C dX2_closeFact_76 ?_
      obtain ⟨h44, e45, hf0⟩ := ob hf0
      refine r_putI C fk_X2_85 dX2_closeFact_77 e45 ?_
      refine r_aload_n C dX2_closeFact_80 rfl ?_
      obtain ⟨t46, e47, hf0⟩ := ob hf0
      refine r_getR C fk_X2_40 rfl dX2_closeFact_81 e47 ?_
      obtain ⟨t48, e49, hf0⟩ := ob hf0
      refine r_getR C fk_X2_101 rfl dX2_closeFact_84 e49 ?_
      refine r_aload_n C dX2_closeFact_87 rfl ?_
      obtain ⟨t50, e51, hf0⟩ := ob hf0
      refine r_getR C fk_X2_40 rfl dX2_closeFact_88 e51 ?_
      obtain ⟨t52, e53, hf0⟩ := ob hf0
      refine r_getI C fk_X2_85 rfl dX2_closeFact_91 e53 ?_
      refine r_aload_n C dX2_closeFact_94 rfl ?_
      obtain ⟨t54, e55, hf0⟩ := ob hf0
      refine r_getR C fk_X2_40 rfl dX2_closeFact_95 e55 ?_
      obtain ⟨t56, e57, hf0⟩ := ob hf0
      refine r_getI C fk_X2_104 rfl dX2_closeFact_98 e57 ?_
      obtain ⟨h58, e59, hf0⟩ := ob hf0
      refine r_stI C dX2_closeFact_101 e59 ?_
      refine r_aload_n C dX2_closeFact_102 rfl ?_
      obtain ⟨t60, e61, hf0⟩ := ob hf0
      refine r_getR C fk_X2_36 rfl dX2_closeFact_103 e61 ?_
      refine r_iconst (v := 3) C dX2_closeFact_106 (by decide) ?_
      obtain ⟨u63, e62, hf0⟩ := ob hf0
      obtain ⟨t64, h65, e66, hf0⟩ := ob2 hf0
      refine r_cV (ci := 4) (rest := []) (st2 := [.int t64]) C (s_X4_take e66) mk_X4_take rfl (ck_k e62) (by decide) im_X4_take sl_X4_take lk_X2_98 rfl rfl rfl dX2_closeFact_107 (Nat.le_of_ble_eq_true rfl) ⟨Nat.le_of_ble_eq_true rfl, Nat.le_of_ble_eq_true rfl⟩ ⟨Nat.le_of_ble_eq_true rfl, Nat.le_of_ble_eq_true rfl⟩ ?_
      obtain ⟨t67, e68, hf0⟩ := ob hf0
      obtain ⟨rfl, e68z⟩ := rZ_k e68
      obtain rfl := so hf0
      exact r_zret C dX2_closeFact_110 e68z
    · rw [if_neg c33] at hf0
      refine r_subk [1] (lv' := [(0, .ref v0)]) rfl ?_
      exact J44 h v0 hf0
def f_X2_readFact_j138 (h : aH) (v0 : Nat) : Option (Int32 × aH) := (ck h 2 v0).bind fun _ => bd2 (f_X2_closeFact h v0) fun t1 h2 => (rZ t1).bind fun t3 => some (t3, h2)
def f_X2_readFact_j122 (h : aH) (v0 : Nat) (v1 : Int32) : Option ((Int32 × aH) ⊕ ((aH) ⊕ (aH))) := (ck h 2 v0).bind fun _ => bd2 (f_X2_readValue h v0 v1) fun t24 h25 => if t24 = 0 then some (.inr (.inl h25)) else (some (v1 + (1 : Int32))).bind fun t26 => some (.inl (t26, h25))
def f_X2_readFact_b101 (v0 : Nat) (v1 : Int32) (h : aH) : Option ((Int32 × aH) ⊕ ((aH) ⊕ (aH))) := if (6 : Int32) < v1 then some (.inr (.inr h)) else if v1 = 0 then f_X2_readFact_j122 h v0 v1 else (gR h 2 v0 0).bind fun t27 => (gI h 4 t27 10).bind fun t28 => if t28 = (3 : Int32) then some (.inr (.inr h)) else f_X2_readFact_j122 h v0 v1
def f_X2_readFact_l101 (v0 : Nat) (v1 : Int32) (h : aH) : Option ((aH) ⊕ (aH)) := whileL wN (fun q : Int32 × aH => f_X2_readFact_b101 v0 q.1 q.2) (v1, h)
def f_X2_readFact (h : aH) (v0 : Nat) : Option (Int32 × aH) := (gR h 2 v0 6).bind fun t4 => (gI h 1 t4 12).bind fun t5 => if t5 < (4 : Int32) then (gR h 2 v0 6).bind fun t6 => (gI h 1 t6 16).bind fun t7 => if t7 ≤ 0 then (gR h 2 v0 0).bind fun t8 => (ck h 4 t8).bind fun _ => (f_X4_advance h t8).bind fun h9 => (gR h9 2 v0 6).bind fun t10 => (gI h9 1 t10 12).bind fun t11 => (ck h9 2 v0).bind fun _ => bd2 (f_X2_takeNewName h9 v0 (0 : Int32) t11) fun t12 h13 => if t12 = 0 then some ((0 : Int32), h13) else (gR h13 2 v0 0).bind fun t14 => (ck h13 4 t14).bind fun _ => bd2 (f_X4_take h13 t14 (9 : Int32)) fun t15 h16 => if t15 = 0 then some ((0 : Int32), h16) else (gR h16 2 v0 6).bind fun t17 => (gR h16 1 t17 1).bind fun t18 => (gR h16 2 v0 6).bind fun t19 => (gI h16 1 t19 12).bind fun t20 => (gR h16 2 v0 6).bind fun t21 => (gI h16 1 t21 13).bind fun t22 => (sI h16 t18 t20 t22).bind fun h23 => (f_X2_readFact_l101 v0 (0 : Int32) h23).bind fun e => match e with | .inl h29 => some ((0 : Int32), h29) | .inr h30 => f_X2_readFact_j138 h30 v0 else (gR h 2 v0 0).bind fun t31 => (ck h 4 t31).bind fun _ => bd2 (f_X4_refuseHere h t31 (7 : Int32)) fun t32 h33 => (rZ t32).bind fun t34 => some (t34, h33) else (gR h 2 v0 0).bind fun t35 => (ck h 4 t35).bind fun _ => bd2 (f_X4_refuseHere h t35 (6 : Int32)) fun t36 h37 => (rZ t36).bind fun t38 => some (t38, h37)
theorem s_X2_readFact {h : aH} {v0 : Nat} {out : Int32 × aH} (hf0 : f_X2_readFact h v0 = some out) : EV 3 yX2_readFact cX2_readFact 2 (some .boolean) h [.ref v0] (some (.int out.1)) out.2 0 0 := by
  refine EV.of (own := RX2) (lv0 := [(0, .ref v0)]) (by decide +kernel) rfl rfl (Nat.le_of_ble_eq_true rfl) ?_
  intro p l e s m args below meth c D cA B Hb C hin
  unfold f_X2_readFact at hf0
  have J138 : ∀ (h1 : aH) (t2 : Nat), f_X2_readFact_j138 h1 t2 = some out → gW p l e (rmO 3 0 0) s m args below meth c (MQ below (eQ D cA B Hb out.2 (some (.int out.1))) args s 0 0 (fun q => B ≤ q)) D cA B Hb 2 h1 138 [(0, .ref t2)] [] 0 0 := by
    intro h1 t2 hf0
    unfold f_X2_readFact_j138 at hf0
    refine r_aload_n C dX2_readFact_138 rfl ?_
    obtain ⟨u4, e3, hf0⟩ := ob hf0
    obtain ⟨t5, h6, e7, hf0⟩ := ob2 hf0
    refine r_cV (ci := 2) (rest := []) (st2 := [.int t5]) C (s_X2_closeFact e7) mk_X2_closeFact rfl (ck_k e3) (by decide) im_X2_closeFact sl_X2_closeFact lk_X2_110 rfl rfl rfl dX2_readFact_139 (Nat.le_of_ble_eq_true rfl) ⟨Nat.le_of_ble_eq_true rfl, Nat.le_of_ble_eq_true rfl⟩ ⟨Nat.le_of_ble_eq_true rfl, Nat.le_of_ble_eq_true rfl⟩ ?_
    obtain ⟨t8, e9, hf0⟩ := ob hf0
    obtain ⟨rfl, e9z⟩ := rZ_k e9
    obtain rfl := so hf0
    exact r_zret C dX2_readFact_142 e9z
  refine r_aload_n C dX2_readFact_0 rfl ?_
  obtain ⟨t10, e11, hf0⟩ := ob hf0
  refine r_getR C fk_X2_40 rfl dX2_readFact_1 e11 ?_
  obtain ⟨t12, e13, hf0⟩ := ob hf0
  refine r_getI C fk_X2_85 rfl dX2_readFact_4 e13 ?_
  refine r_iconst (v := 4) C dX2_readFact_7 (by decide) ?_
  refine r_icmp_lt (tgt := 21) C dX2_readFact_8 (by decide) (fun c14 => ?_) (fun c14 => ?_)
  · rw [if_pos c14] at hf0
    refine r_aload_n C dX2_readFact_21 rfl ?_
    obtain ⟨t15, e16, hf0⟩ := ob hf0
    refine r_getR C fk_X2_40 rfl dX2_readFact_22 e16 ?_
    obtain ⟨t17, e18, hf0⟩ := ob hf0
    refine r_getI C fk_X2_88 rfl dX2_readFact_25 e18 ?_
    refine r_ifle (tgt := 41) C dX2_readFact_28 (by decide) (fun c19 => ?_) (fun c19 => ?_)
    · rw [if_pos c19] at hf0
      refine r_aload_n C dX2_readFact_41 rfl ?_
      obtain ⟨t20, e21, hf0⟩ := ob hf0
      refine r_getR C fk_X2_36 rfl dX2_readFact_42 e21 ?_
      obtain ⟨u23, e22, hf0⟩ := ob hf0
      obtain ⟨h24, e25, hf0⟩ := ob hf0
      refine r_cV (ci := 4) (rest := []) (st2 := []) C (s_X4_advance e25) mk_X4_advance rfl (ck_k e22) (by decide) im_X4_advance sl_X4_advance lk_X2_91 rfl rfl rfl dX2_readFact_45 (Nat.le_of_ble_eq_true rfl) ⟨Nat.le_of_ble_eq_true rfl, Nat.le_of_ble_eq_true rfl⟩ ⟨Nat.le_of_ble_eq_true rfl, Nat.le_of_ble_eq_true rfl⟩ ?_
      refine r_aload_n C dX2_readFact_48 rfl ?_
      refine r_iconst (v := 0) C dX2_readFact_49 (by decide) ?_
      refine r_aload_n C dX2_readFact_50 rfl ?_
      obtain ⟨t26, e27, hf0⟩ := ob hf0
      refine r_getR C fk_X2_40 rfl dX2_readFact_51 e27 ?_
      obtain ⟨t28, e29, hf0⟩ := ob hf0
      refine r_getI C fk_X2_85 rfl dX2_readFact_54 e29 ?_
      obtain ⟨u31, e30, hf0⟩ := ob hf0
      obtain ⟨t32, h33, e34, hf0⟩ := ob2 hf0
      refine r_cV (ci := 2) (rest := []) (st2 := [.int t32]) C (s_X2_takeNewName e34) mk_X2_takeNewName rfl (ck_k e30) (by decide) im_X2_takeNewName sl_X2_takeNewName lk_X2_94 rfl rfl rfl dX2_readFact_57 (Nat.le_of_ble_eq_true rfl) ⟨Nat.le_of_ble_eq_true rfl, Nat.le_of_ble_eq_true rfl⟩ ⟨Nat.le_of_ble_eq_true rfl, Nat.le_of_ble_eq_true rfl⟩ ?_
      refine r_ifeq (tgt := 75) C dX2_readFact_60 (by decide) (fun c35 => ?_) (fun c35 => ?_)
      · rw [if_pos c35] at hf0
        refine r_iconst (v := 0) C dX2_readFact_75 (by decide) ?_
        obtain rfl := so hf0
        exact r_zret C dX2_readFact_76 (Or.inl rfl)
      · rw [if_neg c35] at hf0
        refine r_aload_n C dX2_readFact_63 rfl ?_
        obtain ⟨t36, e37, hf0⟩ := ob hf0
        refine r_getR C fk_X2_36 rfl dX2_readFact_64 e37 ?_
        refine r_bipush (v := 9) C dX2_readFact_67 (by decide) ?_
        obtain ⟨u39, e38, hf0⟩ := ob hf0
        obtain ⟨t40, h41, e42, hf0⟩ := ob2 hf0
        refine r_cV (ci := 4) (rest := []) (st2 := [.int t40]) C (s_X4_take e42) mk_X4_take rfl (ck_k e38) (by decide) im_X4_take sl_X4_take lk_X2_98 rfl rfl rfl dX2_readFact_69 (Nat.le_of_ble_eq_true rfl) ⟨Nat.le_of_ble_eq_true rfl, Nat.le_of_ble_eq_true rfl⟩ ⟨Nat.le_of_ble_eq_true rfl, Nat.le_of_ble_eq_true rfl⟩ ?_
        refine r_ifne (tgt := 77) C dX2_readFact_72 (by decide) (fun c43 => ?_) (fun c43 => ?_)
        · rw [if_neg c43] at hf0
          refine r_aload_n C dX2_readFact_77 rfl ?_
          obtain ⟨t44, e45, hf0⟩ := ob hf0
          refine r_getR C fk_X2_40 rfl dX2_readFact_78 e45 ?_
          obtain ⟨t46, e47, hf0⟩ := ob hf0
          refine r_getR C fk_X2_101 rfl dX2_readFact_81 e47 ?_
          refine r_aload_n C dX2_readFact_84 rfl ?_
          obtain ⟨t48, e49, hf0⟩ := ob hf0
          refine r_getR C fk_X2_40 rfl dX2_readFact_85 e49 ?_
          obtain ⟨t50, e51, hf0⟩ := ob hf0
          refine r_getI C fk_X2_85 rfl dX2_readFact_88 e51 ?_
          refine r_aload_n C dX2_readFact_91 rfl ?_
          obtain ⟨t52, e53, hf0⟩ := ob hf0
          refine r_getR C fk_X2_40 rfl dX2_readFact_92 e53 ?_
          obtain ⟨t54, e55, hf0⟩ := ob hf0
          refine r_getI C fk_X2_104 rfl dX2_readFact_95 e55 ?_
          obtain ⟨h56, e57, hf0⟩ := ob hf0
          refine r_stI C dX2_readFact_98 e57 ?_
          refine r_iconst (v := 0) C dX2_readFact_99 (by decide) ?_
          refine r_istore_n (lv' := [(1, .int (0 : Int32)), (0, .ref v0)]) C dX2_readFact_100 (by decide) rfl rfl ?_
          obtain ⟨y58, hl101, hf0⟩ := ob hf0
          have L101 : ∀ (n : Nat) (t59 : Int32) (h60 : aH), whileL n (fun q : Int32 × aH => f_X2_readFact_b101 v0 q.1 q.2) (t59, h60) = some y58 → gW p l e (rmO 3 0 0) s m args below meth c (MQ below (eQ D cA B Hb out.2 (some (.int out.1))) args s 0 0 (fun q => B ≤ q)) D cA B Hb 2 h60 101 [(0, .ref v0), (1, .int t59)] [] 0 0 := by
            intro n
            induction n with
            | zero => intro t59 h60 hz; cases hz
            | succ n ih101 =>
              intro t59 h60 hz
              obtain ⟨x101, hf1, hk101⟩ := wl hz
              replace hf1 : f_X2_readFact_b101 v0 t59 h60 = some x101 := hf1
              unfold f_X2_readFact_b101 at hf1
              have J122 : ∀ (h61 : aH) (t62 : Int32), f_X2_readFact_j122 h61 v0 t62 = some x101 → gW p l e (rmO 3 0 0) s m args below meth c (MQ below (eQ D cA B Hb out.2 (some (.int out.1))) args s 0 0 (fun q => B ≤ q)) D cA B Hb 2 h61 122 [(0, .ref v0), (1, .int t62)] [] 0 0 := by
                intro h61 t62 hf1
                unfold f_X2_readFact_j122 at hf1
                refine r_aload_n C dX2_readFact_122 rfl ?_
                refine r_iload_n C dX2_readFact_123 rfl ?_
                obtain ⟨u64, e63, hf1⟩ := ob hf1
                obtain ⟨t65, h66, e67, hf1⟩ := ob2 hf1
                refine r_cV (ci := 2) (rest := []) (st2 := [.int t65]) C (s_X2_readValue e67) mk_X2_readValue rfl (ck_k e63) (by decide) im_X2_readValue sl_X2_readValue lk_X2_107 rfl rfl rfl dX2_readFact_124 (Nat.le_of_ble_eq_true rfl) ⟨Nat.le_of_ble_eq_true rfl, Nat.le_of_ble_eq_true rfl⟩ ⟨Nat.le_of_ble_eq_true rfl, Nat.le_of_ble_eq_true rfl⟩ ?_
                refine r_ifne (tgt := 132) C dX2_readFact_127 (by decide) (fun c68 => ?_) (fun c68 => ?_)
                · rw [if_neg c68] at hf1
                  obtain ⟨t69, e70, hf1⟩ := ob hf1
                  refine r_iinc (lv' := [(1, .int t69), (0, .ref v0)]) C dX2_readFact_132 rfl e70 (by decide) rfl ?_
                  refine r_goto (tgt := 101) C dX2_readFact_135 (by decide) ?_
                  obtain rfl := so hf1
                  refine r_subk [1, 0] (lv' := [(0, .ref v0), (1, .int t69)]) rfl ?_
                  exact ih101 t69 h66 hk101
                · rw [if_pos c68] at hf1
                  obtain rfl := so hf1
                  obtain rfl := so (show some (.inl h66 : (aH) ⊕ (aH)) = some y58 from hk101)
                  dsimp only at hf0
                  refine r_iconst (v := 0) C dX2_readFact_130 (by decide) ?_
                  obtain rfl := so hf0
                  exact r_zret C dX2_readFact_131 (Or.inl rfl)
              refine r_iload_n C dX2_readFact_101 rfl ?_
              refine r_bipush (v := 6) C dX2_readFact_102 (by decide) ?_
              refine r_icmp_gt (tgt := 138) C dX2_readFact_104 (by decide) (fun c71 => ?_) (fun c71 => ?_)
              · rw [if_pos c71] at hf1
                obtain rfl := so hf1
                obtain rfl := so (show some (.inr h60 : (aH) ⊕ (aH)) = some y58 from hk101)
                dsimp only at hf0
                refine r_subk [0] (lv' := [(0, .ref v0)]) rfl ?_
                exact J138 h60 v0 hf0
              · rw [if_neg c71] at hf1
                refine r_iload_n C dX2_readFact_107 rfl ?_
                refine r_ifeq (tgt := 122) C dX2_readFact_108 (by decide) (fun c72 => ?_) (fun c72 => ?_)
                · rw [if_pos c72] at hf1
                  exact J122 h60 t59 hf1
                · rw [if_neg c72] at hf1
                  refine r_aload_n C dX2_readFact_111 rfl ?_
                  obtain ⟨t73, e74, hf1⟩ := ob hf1
                  refine r_getR C fk_X2_36 rfl dX2_readFact_112 e74 ?_
                  obtain ⟨t75, e76, hf1⟩ := ob hf1
                  refine r_getI C fk_X2_55 rfl dX2_readFact_115 e76 ?_
                  refine r_iconst (v := 3) C dX2_readFact_118 (by decide) ?_
                  refine r_icmp_eq (tgt := 138) C dX2_readFact_119 (by decide) (fun c77 => ?_) (fun c77 => ?_)
                  · rw [if_pos c77] at hf1
                    obtain rfl := so hf1
                    obtain rfl := so (show some (.inr h60 : (aH) ⊕ (aH)) = some y58 from hk101)
                    dsimp only at hf0
                    refine r_subk [0] (lv' := [(0, .ref v0)]) rfl ?_
                    exact J138 h60 v0 hf0
                  · rw [if_neg c77] at hf1
                    exact J122 h60 t59 hf1
          refine r_subk [1, 0] (lv' := [(0, .ref v0), (1, .int (0 : Int32))]) rfl ?_
          exact L101 wN (0 : Int32) h56 hl101
        · rw [if_pos c43] at hf0
          refine r_iconst (v := 0) C dX2_readFact_75 (by decide) ?_
          obtain rfl := so hf0
          exact r_zret C dX2_readFact_76 (Or.inl rfl)
    · rw [if_neg c19] at hf0
      refine r_aload_n C dX2_readFact_31 rfl ?_
      obtain ⟨t78, e79, hf0⟩ := ob hf0
      refine r_getR C fk_X2_36 rfl dX2_readFact_32 e79 ?_
      refine r_bipush (v := 7) C dX2_readFact_35 (by decide) ?_
      obtain ⟨u81, e80, hf0⟩ := ob hf0
      obtain ⟨t82, h83, e84, hf0⟩ := ob2 hf0
      refine r_cV (ci := 4) (rest := []) (st2 := [.int t82]) C (s_X4_refuseHere e84) mk_X4_refuseHere rfl (ck_k e80) (by decide) im_X4_refuseHere sl_X4_refuseHere lk_X2_74 rfl rfl rfl dX2_readFact_37 (Nat.le_of_ble_eq_true rfl) ⟨Nat.le_of_ble_eq_true rfl, Nat.le_of_ble_eq_true rfl⟩ ⟨Nat.le_of_ble_eq_true rfl, Nat.le_of_ble_eq_true rfl⟩ ?_
      obtain ⟨t85, e86, hf0⟩ := ob hf0
      obtain ⟨rfl, e86z⟩ := rZ_k e86
      obtain rfl := so hf0
      exact r_zret C dX2_readFact_40 e86z
  · rw [if_neg c14] at hf0
    refine r_aload_n C dX2_readFact_11 rfl ?_
    obtain ⟨t87, e88, hf0⟩ := ob hf0
    refine r_getR C fk_X2_36 rfl dX2_readFact_12 e88 ?_
    refine r_bipush (v := 6) C dX2_readFact_15 (by decide) ?_
    obtain ⟨u90, e89, hf0⟩ := ob hf0
    obtain ⟨t91, h92, e93, hf0⟩ := ob2 hf0
    refine r_cV (ci := 4) (rest := []) (st2 := [.int t91]) C (s_X4_refuseHere e93) mk_X4_refuseHere rfl (ck_k e89) (by decide) im_X4_refuseHere sl_X4_refuseHere lk_X2_74 rfl rfl rfl dX2_readFact_17 (Nat.le_of_ble_eq_true rfl) ⟨Nat.le_of_ble_eq_true rfl, Nat.le_of_ble_eq_true rfl⟩ ⟨Nat.le_of_ble_eq_true rfl, Nat.le_of_ble_eq_true rfl⟩ ?_
    obtain ⟨t94, e95, hf0⟩ := ob hf0
    obtain ⟨rfl, e95z⟩ := rZ_k e95
    obtain rfl := so hf0
    exact r_zret C dX2_readFact_20 e95z
def f_X7_numberOf_j43 (h : aH) (v0 : Nat) (v1 : Int64) (v3 : Int32) (v4 : Int32) : Option ((Int32) ⊕ ((Int32) ⊕ (Unit))) := (some (v4 + (1 : Int32))).bind fun t1 => some (.inl t1)
def f_X7_numberOf_b3 (h : aH) (v0 : Nat) (v1 : Int64) (v3 : Int32) (v4 : Int32) : Option ((Int32) ⊕ ((Int32) ⊕ (Unit))) := (gI h 7 v0 3).bind fun t2 => if t2 ≤ v4 then some (.inr (.inr ())) else (gR h 7 v0 0).bind fun t3 => (lJ h t3 v4).bind fun t4 => if (lg_cmp t4 v1) = 0 then (gR h 7 v0 1).bind fun t5 => (lI h t5 v4).bind fun t6 => if t6 = v3 then some (.inr (.inl v4)) else f_X7_numberOf_j43 h v0 v1 v3 v4 else f_X7_numberOf_j43 h v0 v1 v3 v4
def f_X7_numberOf_l3 (h : aH) (v0 : Nat) (v1 : Int64) (v3 : Int32) (v4 : Int32) : Option ((Int32) ⊕ (Unit)) := whileL wN (fun q : Int32 => f_X7_numberOf_b3 h v0 v1 v3 q) v4
def f_X7_numberOf (h : aH) (v0 : Nat) (v1 : Int64) (v3 : Int32) : Option (Int32) := (f_X7_numberOf_l3 h v0 v1 v3 (0 : Int32)).bind fun e => match e with | .inl t7 => (gR h 7 v0 2).bind fun t8 => (lI h t8 t7).bind fun t9 => some t9 | .inr _ => some (-1 : Int32)
theorem s_X7_numberOf {h : aH} {v0 : Nat} {v1 : Int64} {v3 : Int32} {out : Int32} (hf0 : f_X7_numberOf h v0 v1 v3 = some out) : EV 0 yX7_numberOf cX7_numberOf 5 (some .int) h [.ref v0, .long v1, .int v3] (some (.int out)) h 0 0 := by
  refine EV.of (own := RX7) (lv0 := [(0, .ref v0), (1, .long v1), (3, .int v3)]) (by decide +kernel) rfl rfl (Nat.le_of_ble_eq_true rfl) ?_
  intro p l e s m args below meth c D cA B Hb C hin
  unfold f_X7_numberOf at hf0
  refine r_iconst (v := 0) C dX7_numberOf_0 (by decide) ?_
  refine r_istore (lv' := [(4, .int (0 : Int32)), (0, .ref v0), (1, .long v1), (3, .int v3)]) C dX7_numberOf_1 (by decide) rfl rfl ?_
  obtain ⟨y1, hl3, hf0⟩ := ob hf0
  have L3 : ∀ (n : Nat) (t2 : Int32), whileL n (fun q : Int32 => f_X7_numberOf_b3 h v0 v1 v3 q) t2 = some y1 → gW p l e (rmO 0 0 0) s m args below meth c (MQ below (eQ D cA B Hb h (some (.int out))) args s 0 0 (fun q => B ≤ q)) D cA B Hb 5 h 3 [(0, .ref v0), (1, .long v1), (3, .int v3), (4, .int t2)] [] 0 0 := by
    intro n
    induction n with
    | zero => intro t2 hz; cases hz
    | succ n ih3 =>
      intro t2 hz
      obtain ⟨x3, hf1, hk3⟩ := wl hz
      replace hf1 : f_X7_numberOf_b3 h v0 v1 v3 t2 = some x3 := hf1
      unfold f_X7_numberOf_b3 at hf1
      have J43 : ∀ (t3 : Int32), f_X7_numberOf_j43 h v0 v1 v3 t3 = some x3 → gW p l e (rmO 0 0 0) s m args below meth c (MQ below (eQ D cA B Hb h (some (.int out))) args s 0 0 (fun q => B ≤ q)) D cA B Hb 5 h 43 [(0, .ref v0), (1, .long v1), (3, .int v3), (4, .int t3)] [] 0 0 := by
        intro t3 hf1
        unfold f_X7_numberOf_j43 at hf1
        obtain ⟨t4, e5, hf1⟩ := ob hf1
        refine r_iinc (lv' := [(4, .int t4), (0, .ref v0), (1, .long v1), (3, .int v3)]) C dX7_numberOf_43 rfl e5 (by decide) rfl ?_
        refine r_goto (tgt := 3) C dX7_numberOf_46 (by decide) ?_
        obtain rfl := so hf1
        refine r_subk [1, 2, 3, 0] (lv' := [(0, .ref v0), (1, .long v1), (3, .int v3), (4, .int t4)]) rfl ?_
        exact ih3 t4 hk3
      refine r_iload C dX7_numberOf_3 rfl ?_
      refine r_aload_n C dX7_numberOf_5 rfl ?_
      obtain ⟨t6, e7, hf1⟩ := ob hf1
      refine r_getI C fk_X7_22 rfl dX7_numberOf_6 e7 ?_
      refine r_icmp_ge (tgt := 49) C dX7_numberOf_9 (by decide) (fun c8 => ?_) (fun c8 => ?_)
      · rw [if_pos c8] at hf1
        obtain rfl := so hf1
        obtain rfl := so (show some (.inr () : (Int32) ⊕ (Unit)) = some y1 from hk3)
        dsimp only at hf0
        refine r_iconst (v := -1) C dX7_numberOf_49 (by decide) ?_
        obtain rfl := so hf0
        exact r_iret C dX7_numberOf_50
      · rw [if_neg c8] at hf1
        refine r_aload_n C dX7_numberOf_12 rfl ?_
        obtain ⟨t9, e10, hf1⟩ := ob hf1
        refine r_getR C fk_X7_9 rfl dX7_numberOf_13 e10 ?_
        refine r_iload C dX7_numberOf_16 rfl ?_
        obtain ⟨t11, e12, hf1⟩ := ob hf1
        refine r_ldJ C dX7_numberOf_18 e12 ?_
        refine r_lload_n C dX7_numberOf_19 rfl ?_
        refine r_lcmp C dX7_numberOf_20 ?_
        refine r_ifne (tgt := 43) C dX7_numberOf_21 (by decide) (fun c13 => ?_) (fun c13 => ?_)
        · rw [if_neg c13] at hf1
          exact J43 t2 hf1
        · rw [if_pos c13] at hf1
          refine r_aload_n C dX7_numberOf_24 rfl ?_
          obtain ⟨t14, e15, hf1⟩ := ob hf1
          refine r_getR C fk_X7_15 rfl dX7_numberOf_25 e15 ?_
          refine r_iload C dX7_numberOf_28 rfl ?_
          obtain ⟨t16, e17, hf1⟩ := ob hf1
          refine r_ldI C dX7_numberOf_30 e17 ?_
          refine r_iload_n C dX7_numberOf_31 rfl ?_
          refine r_icmp_ne (tgt := 43) C dX7_numberOf_32 (by decide) (fun c18 => ?_) (fun c18 => ?_)
          · rw [if_neg c18] at hf1
            exact J43 t2 hf1
          · rw [if_pos c18] at hf1
            obtain rfl := so hf1
            obtain rfl := so (show some (.inl t2 : (Int32) ⊕ (Unit)) = some y1 from hk3)
            dsimp only at hf0
            refine r_aload_n C dX7_numberOf_35 rfl ?_
            obtain ⟨t19, e20, hf0⟩ := ob hf0
            refine r_getR C fk_X7_19 rfl dX7_numberOf_36 e20 ?_
            refine r_iload C dX7_numberOf_39 rfl ?_
            obtain ⟨t21, e22, hf0⟩ := ob hf0
            refine r_ldI C dX7_numberOf_41 e22 ?_
            obtain rfl := so hf0
            exact r_iret C dX7_numberOf_42
  refine r_subk [1, 2, 3, 0] (lv' := [(0, .ref v0), (1, .long v1), (3, .int v3), (4, .int (0 : Int32))]) rfl ?_
  exact L3 wN (0 : Int32) hl3
def f_X4_seekName (h : aH) (v0 : Nat) (v1 : Nat) (v2 : Int32) : Option (Int32 × aH) := (gI h 4 v0 10).bind fun t1 => if t1 = (6 : Int32) then (gJ h 4 v0 11).bind fun t2 => (ck h 7 v1).bind fun _ => (f_X7_numberOf h v1 t2 v2).bind fun t3 => if t3 = (-1 : Int32) then (ck h 4 v0).bind fun _ => bd2 (f_X4_refuseHere h v0 (3 : Int32)) fun t4 h5 => some (t3, h5) else some (t3, h) else (ck h 4 v0).bind fun _ => bd2 (f_X4_refuseHere h v0 (2 : Int32)) fun t6 h7 => some ((-1 : Int32), h7)
theorem s_X4_seekName {h : aH} {v0 : Nat} {v1 : Nat} {v2 : Int32} {out : Int32 × aH} (hf0 : f_X4_seekName h v0 v1 v2 = some out) : EV 1 yX4_seekName cX4_seekName 4 (some .int) h [.ref v0, .ref v1, .int v2] (some (.int out.1)) out.2 0 0 := by
  refine EV.of (own := RX4) (lv0 := [(0, .ref v0), (1, .ref v1), (2, .int v2)]) (by decide +kernel) rfl rfl (Nat.le_of_ble_eq_true rfl) ?_
  intro p l e s m args below meth c D cA B Hb C hin
  unfold f_X4_seekName at hf0
  refine r_aload_n C dX4_seekName_0 rfl ?_
  obtain ⟨t1, e2, hf0⟩ := ob hf0
  refine r_getI C fk_X4_45 rfl dX4_seekName_1 e2 ?_
  refine r_bipush (v := 6) C dX4_seekName_4 (by decide) ?_
  refine r_icmp_eq (tgt := 17) C dX4_seekName_6 (by decide) (fun c3 => ?_) (fun c3 => ?_)
  · rw [if_pos c3] at hf0
    refine r_aload_n C dX4_seekName_17 rfl ?_
    refine r_aload_n C dX4_seekName_18 rfl ?_
    obtain ⟨t4, e5, hf0⟩ := ob hf0
    refine r_getJ C fk_X4_48 rfl dX4_seekName_19 e5 ?_
    refine r_iload_n C dX4_seekName_22 rfl ?_
    obtain ⟨u7, e6, hf0⟩ := ob hf0
    obtain ⟨t8, e9, hf0⟩ := ob hf0
    refine r_cV (ci := 7) (rest := []) (st2 := [.int t8]) C (s_X7_numberOf e9) mk_X7_numberOf rfl (ck_k e6) (by decide) im_X7_numberOf sl_X7_numberOf lk_X4_102 rfl rfl rfl dX4_seekName_23 (Nat.le_of_ble_eq_true rfl) ⟨Nat.le_of_ble_eq_true rfl, Nat.le_of_ble_eq_true rfl⟩ ⟨Nat.le_of_ble_eq_true rfl, Nat.le_of_ble_eq_true rfl⟩ ?_
    refine r_istore_n (lv' := [(3, .int t8), (0, .ref v0), (1, .ref v1), (2, .int v2)]) C dX4_seekName_26 (by decide) rfl rfl ?_
    refine r_iload_n C dX4_seekName_27 rfl ?_
    refine r_iconst (v := -1) C dX4_seekName_28 (by decide) ?_
    refine r_icmp_ne (tgt := 38) C dX4_seekName_29 (by decide) (fun c10 => ?_) (fun c10 => ?_)
    · rw [if_neg c10] at hf0
      refine r_iload_n C dX4_seekName_38 rfl ?_
      obtain rfl := so hf0
      exact r_iret C dX4_seekName_39
    · rw [if_pos c10] at hf0
      refine r_aload_n C dX4_seekName_32 rfl ?_
      refine r_iconst (v := 3) C dX4_seekName_33 (by decide) ?_
      obtain ⟨u12, e11, hf0⟩ := ob hf0
      obtain ⟨t13, h14, e15, hf0⟩ := ob2 hf0
      refine r_cV (ci := 4) (rest := []) (st2 := [.int t13]) C (s_X4_refuseHere e15) mk_X4_refuseHere rfl (ck_k e11) (by decide) im_X4_refuseHere sl_X4_refuseHere lk_X4_99 rfl rfl rfl dX4_seekName_34 (Nat.le_of_ble_eq_true rfl) ⟨Nat.le_of_ble_eq_true rfl, Nat.le_of_ble_eq_true rfl⟩ ⟨Nat.le_of_ble_eq_true rfl, Nat.le_of_ble_eq_true rfl⟩ ?_
      refine r_pop C dX4_seekName_37 rfl ?_
      refine r_iload_n C dX4_seekName_38 rfl ?_
      obtain rfl := so hf0
      exact r_iret C dX4_seekName_39
  · rw [if_neg c3] at hf0
    refine r_aload_n C dX4_seekName_9 rfl ?_
    refine r_iconst (v := 2) C dX4_seekName_10 (by decide) ?_
    obtain ⟨u17, e16, hf0⟩ := ob hf0
    obtain ⟨t18, h19, e20, hf0⟩ := ob2 hf0
    refine r_cV (ci := 4) (rest := []) (st2 := [.int t18]) C (s_X4_refuseHere e20) mk_X4_refuseHere rfl (ck_k e16) (by decide) im_X4_refuseHere sl_X4_refuseHere lk_X4_99 rfl rfl rfl dX4_seekName_11 (Nat.le_of_ble_eq_true rfl) ⟨Nat.le_of_ble_eq_true rfl, Nat.le_of_ble_eq_true rfl⟩ ⟨Nat.le_of_ble_eq_true rfl, Nat.le_of_ble_eq_true rfl⟩ ?_
    refine r_pop C dX4_seekName_14 rfl ?_
    refine r_iconst (v := -1) C dX4_seekName_15 (by decide) ?_
    obtain rfl := so hf0
    exact r_iret C dX4_seekName_16
def f_X4_takeName (h : aH) (v0 : Nat) (v1 : Nat) (v2 : Int32) : Option (Int32 × aH) := (ck h 4 v0).bind fun _ => bd2 (f_X4_seekName h v0 v1 v2) fun t1 h2 => if t1 = (-1 : Int32) then some (t1, h2) else (ck h2 4 v0).bind fun _ => (f_X4_advance h2 v0).bind fun h3 => some (t1, h3)
theorem s_X4_takeName {h : aH} {v0 : Nat} {v1 : Nat} {v2 : Int32} {out : Int32 × aH} (hf0 : f_X4_takeName h v0 v1 v2 = some out) : EV 2 yX4_takeName cX4_takeName 4 (some .int) h [.ref v0, .ref v1, .int v2] (some (.int out.1)) out.2 0 0 := by
  refine EV.of (own := RX4) (lv0 := [(0, .ref v0), (1, .ref v1), (2, .int v2)]) (by decide +kernel) rfl rfl (Nat.le_of_ble_eq_true rfl) ?_
  intro p l e s m args below meth c D cA B Hb C hin
  unfold f_X4_takeName at hf0
  refine r_aload_n C dX4_takeName_0 rfl ?_
  refine r_aload_n C dX4_takeName_1 rfl ?_
  refine r_iload_n C dX4_takeName_2 rfl ?_
  obtain ⟨u2, e1, hf0⟩ := ob hf0
  obtain ⟨t3, h4, e5, hf0⟩ := ob2 hf0
  refine r_cV (ci := 4) (rest := []) (st2 := [.int t3]) C (s_X4_seekName e5) mk_X4_seekName rfl (ck_k e1) (by decide) im_X4_seekName sl_X4_seekName lk_X4_108 rfl rfl rfl dX4_takeName_3 (Nat.le_of_ble_eq_true rfl) ⟨Nat.le_of_ble_eq_true rfl, Nat.le_of_ble_eq_true rfl⟩ ⟨Nat.le_of_ble_eq_true rfl, Nat.le_of_ble_eq_true rfl⟩ ?_
  refine r_istore_n (lv' := [(3, .int t3), (0, .ref v0), (1, .ref v1), (2, .int v2)]) C dX4_takeName_6 (by decide) rfl rfl ?_
  refine r_iload_n C dX4_takeName_7 rfl ?_
  refine r_iconst (v := -1) C dX4_takeName_8 (by decide) ?_
  refine r_icmp_eq (tgt := 16) C dX4_takeName_9 (by decide) (fun c6 => ?_) (fun c6 => ?_)
  · rw [if_pos c6] at hf0
    refine r_iload_n C dX4_takeName_16 rfl ?_
    obtain rfl := so hf0
    exact r_iret C dX4_takeName_17
  · rw [if_neg c6] at hf0
    refine r_aload_n C dX4_takeName_12 rfl ?_
    obtain ⟨u8, e7, hf0⟩ := ob hf0
    obtain ⟨h9, e10, hf0⟩ := ob hf0
    refine r_cV (ci := 4) (rest := []) (st2 := []) C (s_X4_advance e10) mk_X4_advance rfl (ck_k e7) (by decide) im_X4_advance sl_X4_advance lk_X4_77 rfl rfl rfl dX4_takeName_13 (Nat.le_of_ble_eq_true rfl) ⟨Nat.le_of_ble_eq_true rfl, Nat.le_of_ble_eq_true rfl⟩ ⟨Nat.le_of_ble_eq_true rfl, Nat.le_of_ble_eq_true rfl⟩ ?_
    refine r_iload_n C dX4_takeName_16 rfl ?_
    obtain rfl := so hf0
    exact r_iret C dX4_takeName_17
def f_X2_readNever (h : aH) (v0 : Nat) : Option (Int32 × aH) := (gR h 2 v0 6).bind fun t1 => (gI h 1 t1 16).bind fun t2 => if t2 ≤ 0 then (gR h 2 v0 0).bind fun t3 => (ck h 4 t3).bind fun _ => (f_X4_advance h t3).bind fun h4 => (gR h4 2 v0 0).bind fun t5 => (gR h4 2 v0 6).bind fun t6 => (gR h4 1 t6 0).bind fun t7 => (ck h4 4 t5).bind fun _ => bd2 (f_X4_takeName h4 t5 t7 (1 : Int32)) fun t8 h9 => if t8 = (-1 : Int32) then some ((0 : Int32), h9) else (gR h9 2 v0 0).bind fun t10 => (gR h9 2 v0 6).bind fun t11 => (gR h9 1 t11 0).bind fun t12 => (ck h9 4 t10).bind fun _ => bd2 (f_X4_seekName h9 t10 t12 (1 : Int32)) fun t13 h14 => if t13 = (-1 : Int32) then some ((0 : Int32), h14) else (gR h14 2 v0 6).bind fun t15 => (gR h14 1 t15 3).bind fun t16 => (lI h14 t16 t8).bind fun t17 => (gR h14 2 v0 6).bind fun t18 => (gR h14 1 t18 3).bind fun t19 => (lI h14 t19 t13).bind fun t20 => if t17 = t20 then (gR h14 2 v0 0).bind fun t33 => (ck h14 4 t33).bind fun _ => bd2 (f_X4_refuseHere h14 t33 (5 : Int32)) fun t34 h35 => (rZ t34).bind fun t36 => some (t36, h35) else (gR h14 2 v0 2).bind fun t21 => (lI h14 t21 t8).bind fun t22 => (sI h14 t21 t8 (t22 ||| ((1 : Int32) <<< (t13 &&& 31)))).bind fun h23 => (gR h23 2 v0 2).bind fun t24 => (lI h23 t24 t13).bind fun t25 => (sI h23 t24 t13 (t25 ||| ((1 : Int32) <<< (t8 &&& 31)))).bind fun h26 => (gR h26 2 v0 0).bind fun t27 => (ck h26 4 t27).bind fun _ => (f_X4_advance h26 t27).bind fun h28 => (gR h28 2 v0 0).bind fun t29 => (ck h28 4 t29).bind fun _ => bd2 (f_X4_take h28 t29 (3 : Int32)) fun t30 h31 => (rZ t30).bind fun t32 => some (t32, h31) else (gR h 2 v0 0).bind fun t37 => (ck h 4 t37).bind fun _ => bd2 (f_X4_refuseHere h t37 (7 : Int32)) fun t38 h39 => (rZ t38).bind fun t40 => some (t40, h39)
theorem s_X2_readNever {h : aH} {v0 : Nat} {out : Int32 × aH} (hf0 : f_X2_readNever h v0 = some out) : EV 3 yX2_readNever cX2_readNever 3 (some .boolean) h [.ref v0] (some (.int out.1)) out.2 0 0 := by
  refine EV.of (own := RX2) (lv0 := [(0, .ref v0)]) (by decide +kernel) rfl rfl (Nat.le_of_ble_eq_true rfl) ?_
  intro p l e s m args below meth c D cA B Hb C hin
  unfold f_X2_readNever at hf0
  refine r_aload_n C dX2_readNever_0 rfl ?_
  obtain ⟨t1, e2, hf0⟩ := ob hf0
  refine r_getR C fk_X2_40 rfl dX2_readNever_1 e2 ?_
  obtain ⟨t3, e4, hf0⟩ := ob hf0
  refine r_getI C fk_X2_88 rfl dX2_readNever_4 e4 ?_
  refine r_ifle (tgt := 20) C dX2_readNever_7 (by decide) (fun c5 => ?_) (fun c5 => ?_)
  · rw [if_pos c5] at hf0
    refine r_aload_n C dX2_readNever_20 rfl ?_
    obtain ⟨t6, e7, hf0⟩ := ob hf0
    refine r_getR C fk_X2_36 rfl dX2_readNever_21 e7 ?_
    obtain ⟨u9, e8, hf0⟩ := ob hf0
    obtain ⟨h10, e11, hf0⟩ := ob hf0
    refine r_cV (ci := 4) (rest := []) (st2 := []) C (s_X4_advance e11) mk_X4_advance rfl (ck_k e8) (by decide) im_X4_advance sl_X4_advance lk_X2_91 rfl rfl rfl dX2_readNever_24 (Nat.le_of_ble_eq_true rfl) ⟨Nat.le_of_ble_eq_true rfl, Nat.le_of_ble_eq_true rfl⟩ ⟨Nat.le_of_ble_eq_true rfl, Nat.le_of_ble_eq_true rfl⟩ ?_
    refine r_aload_n C dX2_readNever_27 rfl ?_
    obtain ⟨t12, e13, hf0⟩ := ob hf0
    refine r_getR C fk_X2_36 rfl dX2_readNever_28 e13 ?_
    refine r_aload_n C dX2_readNever_31 rfl ?_
    obtain ⟨t14, e15, hf0⟩ := ob hf0
    refine r_getR C fk_X2_40 rfl dX2_readNever_32 e15 ?_
    obtain ⟨t16, e17, hf0⟩ := ob hf0
    refine r_getR C fk_X2_116 rfl dX2_readNever_35 e17 ?_
    refine r_iconst (v := 1) C dX2_readNever_38 (by decide) ?_
    obtain ⟨u19, e18, hf0⟩ := ob hf0
    obtain ⟨t20, h21, e22, hf0⟩ := ob2 hf0
    refine r_cV (ci := 4) (rest := []) (st2 := [.int t20]) C (s_X4_takeName e22) mk_X4_takeName rfl (ck_k e18) (by decide) im_X4_takeName sl_X4_takeName lk_X2_146 rfl rfl rfl dX2_readNever_39 (Nat.le_of_ble_eq_true rfl) ⟨Nat.le_of_ble_eq_true rfl, Nat.le_of_ble_eq_true rfl⟩ ⟨Nat.le_of_ble_eq_true rfl, Nat.le_of_ble_eq_true rfl⟩ ?_
    refine r_istore_n (lv' := [(1, .int t20), (0, .ref v0)]) C dX2_readNever_42 (by decide) rfl rfl ?_
    refine r_iload_n C dX2_readNever_43 rfl ?_
    refine r_iconst (v := -1) C dX2_readNever_44 (by decide) ?_
    refine r_icmp_ne (tgt := 50) C dX2_readNever_45 (by decide) (fun c23 => ?_) (fun c23 => ?_)
    · rw [if_neg c23] at hf0
      refine r_aload_n C dX2_readNever_50 rfl ?_
      obtain ⟨t24, e25, hf0⟩ := ob hf0
      refine r_getR C fk_X2_36 rfl dX2_readNever_51 e25 ?_
      refine r_aload_n C dX2_readNever_54 rfl ?_
      obtain ⟨t26, e27, hf0⟩ := ob hf0
      refine r_getR C fk_X2_40 rfl dX2_readNever_55 e27 ?_
      obtain ⟨t28, e29, hf0⟩ := ob hf0
      refine r_getR C fk_X2_116 rfl dX2_readNever_58 e29 ?_
      refine r_iconst (v := 1) C dX2_readNever_61 (by decide) ?_
      obtain ⟨u31, e30, hf0⟩ := ob hf0
      obtain ⟨t32, h33, e34, hf0⟩ := ob2 hf0
      refine r_cV (ci := 4) (rest := []) (st2 := [.int t32]) C (s_X4_seekName e34) mk_X4_seekName rfl (ck_k e30) (by decide) im_X4_seekName sl_X4_seekName lk_X2_150 rfl rfl rfl dX2_readNever_62 (Nat.le_of_ble_eq_true rfl) ⟨Nat.le_of_ble_eq_true rfl, Nat.le_of_ble_eq_true rfl⟩ ⟨Nat.le_of_ble_eq_true rfl, Nat.le_of_ble_eq_true rfl⟩ ?_
      refine r_istore_n (lv' := [(2, .int t32), (1, .int t20), (0, .ref v0)]) C dX2_readNever_65 (by decide) rfl rfl ?_
      refine r_iload_n C dX2_readNever_66 rfl ?_
      refine r_iconst (v := -1) C dX2_readNever_67 (by decide) ?_
      refine r_icmp_ne (tgt := 73) C dX2_readNever_68 (by decide) (fun c35 => ?_) (fun c35 => ?_)
      · rw [if_neg c35] at hf0
        refine r_aload_n C dX2_readNever_73 rfl ?_
        obtain ⟨t36, e37, hf0⟩ := ob hf0
        refine r_getR C fk_X2_40 rfl dX2_readNever_74 e37 ?_
        obtain ⟨t38, e39, hf0⟩ := ob hf0
        refine r_getR C fk_X2_130 rfl dX2_readNever_77 e39 ?_
        refine r_iload_n C dX2_readNever_80 rfl ?_
        obtain ⟨t40, e41, hf0⟩ := ob hf0
        refine r_ldI C dX2_readNever_81 e41 ?_
        refine r_aload_n C dX2_readNever_82 rfl ?_
        obtain ⟨t42, e43, hf0⟩ := ob hf0
        refine r_getR C fk_X2_40 rfl dX2_readNever_83 e43 ?_
        obtain ⟨t44, e45, hf0⟩ := ob hf0
        refine r_getR C fk_X2_130 rfl dX2_readNever_86 e45 ?_
        refine r_iload_n C dX2_readNever_89 rfl ?_
        obtain ⟨t46, e47, hf0⟩ := ob hf0
        refine r_ldI C dX2_readNever_90 e47 ?_
        refine r_icmp_ne (tgt := 103) C dX2_readNever_91 (by decide) (fun c48 => ?_) (fun c48 => ?_)
        · rw [if_neg c48] at hf0
          refine r_aload_n C dX2_readNever_103 rfl ?_
          obtain ⟨t49, e50, hf0⟩ := ob hf0
          refine r_getR C fk_X2_18 rfl dX2_readNever_104 e50 ?_
          refine r_iload_n C dX2_readNever_107 rfl ?_
          refine r_dup2 C dX2_readNever_108 rfl rfl ?_
          obtain ⟨t51, e52, hf0⟩ := ob hf0
          refine r_ldI C dX2_readNever_109 e52 ?_
          refine r_iconst (v := 1) C dX2_readNever_110 (by decide) ?_
          refine r_iload_n C dX2_readNever_111 rfl ?_
          refine r_ishl C dX2_readNever_112 ?_
          refine r_ior C dX2_readNever_113 ?_
          obtain ⟨h53, e54, hf0⟩ := ob hf0
          refine r_stI C dX2_readNever_114 e54 ?_
          refine r_aload_n C dX2_readNever_115 rfl ?_
          obtain ⟨t55, e56, hf0⟩ := ob hf0
          refine r_getR C fk_X2_18 rfl dX2_readNever_116 e56 ?_
          refine r_iload_n C dX2_readNever_119 rfl ?_
          refine r_dup2 C dX2_readNever_120 rfl rfl ?_
          obtain ⟨t57, e58, hf0⟩ := ob hf0
          refine r_ldI C dX2_readNever_121 e58 ?_
          refine r_iconst (v := 1) C dX2_readNever_122 (by decide) ?_
          refine r_iload_n C dX2_readNever_123 rfl ?_
          refine r_ishl C dX2_readNever_124 ?_
          refine r_ior C dX2_readNever_125 ?_
          obtain ⟨h59, e60, hf0⟩ := ob hf0
          refine r_stI C dX2_readNever_126 e60 ?_
          refine r_aload_n C dX2_readNever_127 rfl ?_
          obtain ⟨t61, e62, hf0⟩ := ob hf0
          refine r_getR C fk_X2_36 rfl dX2_readNever_128 e62 ?_
          obtain ⟨u64, e63, hf0⟩ := ob hf0
          obtain ⟨h65, e66, hf0⟩ := ob hf0
          refine r_cV (ci := 4) (rest := []) (st2 := []) C (s_X4_advance e66) mk_X4_advance rfl (ck_k e63) (by decide) im_X4_advance sl_X4_advance lk_X2_91 rfl rfl rfl dX2_readNever_131 (Nat.le_of_ble_eq_true rfl) ⟨Nat.le_of_ble_eq_true rfl, Nat.le_of_ble_eq_true rfl⟩ ⟨Nat.le_of_ble_eq_true rfl, Nat.le_of_ble_eq_true rfl⟩ ?_
          refine r_aload_n C dX2_readNever_134 rfl ?_
          obtain ⟨t67, e68, hf0⟩ := ob hf0
          refine r_getR C fk_X2_36 rfl dX2_readNever_135 e68 ?_
          refine r_iconst (v := 3) C dX2_readNever_138 (by decide) ?_
          obtain ⟨u70, e69, hf0⟩ := ob hf0
          obtain ⟨t71, h72, e73, hf0⟩ := ob2 hf0
          refine r_cV (ci := 4) (rest := []) (st2 := [.int t71]) C (s_X4_take e73) mk_X4_take rfl (ck_k e69) (by decide) im_X4_take sl_X4_take lk_X2_98 rfl rfl rfl dX2_readNever_139 (Nat.le_of_ble_eq_true rfl) ⟨Nat.le_of_ble_eq_true rfl, Nat.le_of_ble_eq_true rfl⟩ ⟨Nat.le_of_ble_eq_true rfl, Nat.le_of_ble_eq_true rfl⟩ ?_
          obtain ⟨t74, e75, hf0⟩ := ob hf0
          obtain ⟨rfl, e75z⟩ := rZ_k e75
          obtain rfl := so hf0
          exact r_zret C dX2_readNever_142 e75z
        · rw [if_pos c48] at hf0
          refine r_aload_n C dX2_readNever_94 rfl ?_
          obtain ⟨t76, e77, hf0⟩ := ob hf0
          refine r_getR C fk_X2_36 rfl dX2_readNever_95 e77 ?_
          refine r_iconst (v := 5) C dX2_readNever_98 (by decide) ?_
          obtain ⟨u79, e78, hf0⟩ := ob hf0
          obtain ⟨t80, h81, e82, hf0⟩ := ob2 hf0
          refine r_cV (ci := 4) (rest := []) (st2 := [.int t80]) C (s_X4_refuseHere e82) mk_X4_refuseHere rfl (ck_k e78) (by decide) im_X4_refuseHere sl_X4_refuseHere lk_X2_74 rfl rfl rfl dX2_readNever_99 (Nat.le_of_ble_eq_true rfl) ⟨Nat.le_of_ble_eq_true rfl, Nat.le_of_ble_eq_true rfl⟩ ⟨Nat.le_of_ble_eq_true rfl, Nat.le_of_ble_eq_true rfl⟩ ?_
          obtain ⟨t83, e84, hf0⟩ := ob hf0
          obtain ⟨rfl, e84z⟩ := rZ_k e84
          obtain rfl := so hf0
          exact r_zret C dX2_readNever_102 e84z
      · rw [if_pos c35] at hf0
        refine r_iconst (v := 0) C dX2_readNever_71 (by decide) ?_
        obtain rfl := so hf0
        exact r_zret C dX2_readNever_72 (Or.inl rfl)
    · rw [if_pos c23] at hf0
      refine r_iconst (v := 0) C dX2_readNever_48 (by decide) ?_
      obtain rfl := so hf0
      exact r_zret C dX2_readNever_49 (Or.inl rfl)
  · rw [if_neg c5] at hf0
    refine r_aload_n C dX2_readNever_10 rfl ?_
    obtain ⟨t85, e86, hf0⟩ := ob hf0
    refine r_getR C fk_X2_36 rfl dX2_readNever_11 e86 ?_
    refine r_bipush (v := 7) C dX2_readNever_14 (by decide) ?_
    obtain ⟨u88, e87, hf0⟩ := ob hf0
    obtain ⟨t89, h90, e91, hf0⟩ := ob2 hf0
    refine r_cV (ci := 4) (rest := []) (st2 := [.int t89]) C (s_X4_refuseHere e91) mk_X4_refuseHere rfl (ck_k e87) (by decide) im_X4_refuseHere sl_X4_refuseHere lk_X2_74 rfl rfl rfl dX2_readNever_16 (Nat.le_of_ble_eq_true rfl) ⟨Nat.le_of_ble_eq_true rfl, Nat.le_of_ble_eq_true rfl⟩ ⟨Nat.le_of_ble_eq_true rfl, Nat.le_of_ble_eq_true rfl⟩ ?_
    obtain ⟨t92, e93, hf0⟩ := ob hf0
    obtain ⟨rfl, e93z⟩ := rZ_k e93
    obtain rfl := so hf0
    exact r_zret C dX2_readNever_19 e93z
def f_J7_fill_d0a16_b6 (v0 : Nat) (v1 : Int64) (v4 : Int32) (v3 : Int32) (h : aH) : Option ((Int32 × aH) ⊕ (aH)) := if v4 ≤ v3 then some (.inr h) else (sJ h v0 v3 v1).bind fun h2 => (some (v3 + (1 : Int32))).bind fun t3 => some (.inl (t3, h2))
def f_J7_fill_d0a16_l6 (v0 : Nat) (v1 : Int64) (v4 : Int32) (v3 : Int32) (h : aH) : Option (aH) := whileL wN (fun q : Int32 × aH => f_J7_fill_d0a16_b6 v0 v1 v4 q.1 q.2) (v3, h)
def f_J7_fill_d0a16 (h : aH) (v0 : Nat) (v1 : Int64) : Option (aH) := (aN h v0).bind fun t1 => (f_J7_fill_d0a16_l6 v0 v1 t1 (0 : Int32) h).bind fun h4 => some h4
theorem s_J7_fill_d0a16 {h : aH} {v0 : Nat} {v1 : Int64} {out : aH} (hf0 : f_J7_fill_d0a16 h v0 v1 = some out) : EV 0 yJ7_fill_d0a16 cJ7_fill_d0a16 5 none h [.ref v0, .long v1] none out 0 0 := by
  refine EV.of (own := RJ7) (lv0 := [(0, .ref v0), (1, .long v1)]) (by decide +kernel) rfl rfl (Nat.le_of_ble_eq_true rfl) ?_
  intro p l e s m args below meth c D cA B Hb C hin
  unfold f_J7_fill_d0a16 at hf0
  refine r_iconst (v := 0) C dJ7_fill_d0a16_0 (by decide) ?_
  refine r_istore_n (lv' := [(3, .int (0 : Int32)), (0, .ref v0), (1, .long v1)]) C dJ7_fill_d0a16_1 (by decide) rfl rfl ?_
  refine r_aload_n C dJ7_fill_d0a16_2 rfl ?_
  obtain ⟨t1, e2, hf0⟩ := ob hf0
  refine r_alen C dJ7_fill_d0a16_3 e2 ?_
  refine r_istore (lv' := [(4, .int t1), (3, .int (0 : Int32)), (0, .ref v0), (1, .long v1)]) C dJ7_fill_d0a16_4 (by decide) rfl rfl ?_
  obtain ⟨y3, hl6, hf0⟩ := ob hf0
  have L6 : ∀ (n : Nat) (t4 : Int32) (h5 : aH), whileL n (fun q : Int32 × aH => f_J7_fill_d0a16_b6 v0 v1 t1 q.1 q.2) (t4, h5) = some y3 → gW p l e (rmO 0 0 0) s m args below meth c (MQ below (eQ D cA B Hb out none) args s 0 0 (fun q => B ≤ q)) D cA B Hb 5 h5 6 [(0, .ref v0), (1, .long v1), (3, .int t4), (4, .int t1)] [] 0 0 := by
    intro n
    induction n with
    | zero => intro t4 h5 hz; cases hz
    | succ n ih6 =>
      intro t4 h5 hz
      obtain ⟨x6, hf1, hk6⟩ := wl hz
      replace hf1 : f_J7_fill_d0a16_b6 v0 v1 t1 t4 h5 = some x6 := hf1
      unfold f_J7_fill_d0a16_b6 at hf1
      refine r_iload_n C dJ7_fill_d0a16_6 rfl ?_
      refine r_iload C dJ7_fill_d0a16_7 rfl ?_
      refine r_icmp_ge (tgt := 22) C dJ7_fill_d0a16_9 (by decide) (fun c6 => ?_) (fun c6 => ?_)
      · rw [if_pos c6] at hf1
        obtain rfl := so hf1
        obtain rfl := so (show some h5 = some y3 from hk6)
        obtain rfl := so hf0
        exact r_vret C dJ7_fill_d0a16_22
      · rw [if_neg c6] at hf1
        refine r_aload_n C dJ7_fill_d0a16_12 rfl ?_
        refine r_iload_n C dJ7_fill_d0a16_13 rfl ?_
        refine r_lload_n C dJ7_fill_d0a16_14 rfl ?_
        obtain ⟨h7, e8, hf1⟩ := ob hf1
        refine r_stJ C dJ7_fill_d0a16_15 e8 ?_
        obtain ⟨t9, e10, hf1⟩ := ob hf1
        refine r_iinc (lv' := [(3, .int t9), (0, .ref v0), (1, .long v1), (4, .int t1)]) C dJ7_fill_d0a16_16 rfl e10 (by decide) rfl ?_
        refine r_goto (tgt := 6) C dJ7_fill_d0a16_19 (by decide) ?_
        obtain rfl := so hf1
        refine r_subk [1, 2, 0, 3] (lv' := [(0, .ref v0), (1, .long v1), (3, .int t9), (4, .int t1)]) rfl ?_
        exact ih6 t9 h7 hk6
  refine r_subk [2, 3, 1, 0] (lv' := [(0, .ref v0), (1, .long v1), (3, .int (0 : Int32)), (4, .int t1)]) rfl ?_
  exact L6 wN (0 : Int32) h hl6
def f_X2_makeWorldsOnce_j131 (h : aH) (v0 : Nat) (v1 : Int32) : Option ((Int32 × aH) ⊕ (aH)) := (some (v1 + (1 : Int32))).bind fun t10 => some (.inl (t10, h))
def f_X2_makeWorldsOnce_b87 (v0 : Nat) (v1 : Int32) (v2 : Int64) (v4 : Int32) (h : aH) : Option ((Int32 × aH) ⊕ (aH)) := (gR h 2 v0 6).bind fun t19 => (gI h 1 t19 12).bind fun t20 => if t20 ≤ v4 then some (.inr h) else (gR h 2 v0 3).bind fun t21 => (gR h 2 v0 6).bind fun t22 => (ck h 1 t22).bind fun _ => (f_X1_valueIn h t22 v1 v4).bind fun t23 => (lJ h t21 ((t23 * (4 : Int32)) + (v1 >>> ((6 : Int32) &&& 31)))).bind fun t24 => (sJ h t21 ((t23 * (4 : Int32)) + (v1 >>> ((6 : Int32) &&& 31))) (t24 ||| v2)).bind fun h25 => (some (v4 + (1 : Int32))).bind fun t26 => some (.inl (t26, h25))
def f_X2_makeWorldsOnce_l87 (v0 : Nat) (v1 : Int32) (v2 : Int64) (v4 : Int32) (h : aH) : Option (aH) := whileL wN (fun q : Int32 × aH => f_X2_makeWorldsOnce_b87 v0 v1 v2 q.1 q.2) (v4, h)
def f_X2_makeWorldsOnce_b42 (v0 : Nat) (v1 : Int32) (h : aH) : Option ((Int32 × aH) ⊕ (aH)) := (gR h 2 v0 6).bind fun t11 => (gI h 1 t11 14).bind fun t12 => if t12 ≤ v1 then some (.inr h) else (gR h 2 v0 6).bind fun t13 => (ck h 1 t13).bind fun _ => (f_X1_canBe h t13 v1).bind fun t14 => if t14 = 0 then f_X2_makeWorldsOnce_j131 h v0 v1 else (some ((1 : Int64) <<< (Int32.toInt64 (v1 &&& (63 : Int32)) &&& 63))).bind fun t15 => (gR h 2 v0 4).bind fun t16 => (lJ h t16 (v1 >>> ((6 : Int32) &&& 31))).bind fun t17 => (sJ h t16 (v1 >>> ((6 : Int32) &&& 31)) (t17 ||| t15)).bind fun h18 => (f_X2_makeWorldsOnce_l87 v0 v1 t15 (0 : Int32) h18).bind fun h27 => f_X2_makeWorldsOnce_j131 h27 v0 v1
def f_X2_makeWorldsOnce_l42 (v0 : Nat) (v1 : Int32) (h : aH) : Option (aH) := whileL wN (fun q : Int32 × aH => f_X2_makeWorldsOnce_b42 v0 q.1 q.2) (v1, h)
def f_X2_makeWorldsOnce (h : aH) (v0 : Nat) : Option (aH) := (gI h 2 v0 7).bind fun t1 => if t1 = 0 then (pZ h 2 v0 7 (1 : Int32)).bind fun h2 => (gR h2 2 v0 6).bind fun t3 => (gR h2 2 v0 2).bind fun t4 => (ck h2 1 t3).bind fun _ => (f_X1_makeWorlds h2 t3 t4).bind fun h5 => (gR h5 2 v0 4).bind fun t6 => (f_J7_fill_d0a16 h5 t6 (0 : Int64)).bind fun h7 => (gR h7 2 v0 3).bind fun t8 => (f_J7_fill_d0a16 h7 t8 (0 : Int64)).bind fun h9 => (f_X2_makeWorldsOnce_l42 v0 (0 : Int32) h9).bind fun h28 => some h28 else some h
theorem s_X2_makeWorldsOnce {h : aH} {v0 : Nat} {out : aH} (hf0 : f_X2_makeWorldsOnce h v0 = some out) : EV 3 yX2_makeWorldsOnce cX2_makeWorldsOnce 5 none h [.ref v0] none out 0 0 := by
  refine EV.of (own := RX2) (lv0 := [(0, .ref v0)]) (by decide +kernel) rfl rfl (Nat.le_of_ble_eq_true rfl) ?_
  intro p l e s m args below meth c D cA B Hb C hin
  unfold f_X2_makeWorldsOnce at hf0
  refine r_aload_n C dX2_makeWorldsOnce_0 rfl ?_
  obtain ⟨t1, e2, hf0⟩ := ob hf0
  refine r_getI C fk_X2_32 rfl dX2_makeWorldsOnce_1 e2 ?_
  refine r_ifeq (tgt := 8) C dX2_makeWorldsOnce_4 (by decide) (fun c3 => ?_) (fun c3 => ?_)
  · rw [if_pos c3] at hf0
    refine r_aload_n C dX2_makeWorldsOnce_8 rfl ?_
    refine r_iconst (v := 1) C dX2_makeWorldsOnce_9 (by decide) ?_
    obtain ⟨h4, e5, hf0⟩ := ob hf0
    refine r_putZ C fk_X2_32 dX2_makeWorldsOnce_10 e5 ?_
    refine r_aload_n C dX2_makeWorldsOnce_13 rfl ?_
    obtain ⟨t6, e7, hf0⟩ := ob hf0
    refine r_getR C fk_X2_40 rfl dX2_makeWorldsOnce_14 e7 ?_
    refine r_aload_n C dX2_makeWorldsOnce_17 rfl ?_
    obtain ⟨t8, e9, hf0⟩ := ob hf0
    refine r_getR C fk_X2_18 rfl dX2_makeWorldsOnce_18 e9 ?_
    obtain ⟨u11, e10, hf0⟩ := ob hf0
    obtain ⟨h12, e13, hf0⟩ := ob hf0
    refine r_cV (ci := 1) (rest := []) (st2 := []) C (s_X1_makeWorlds e13) mk_X1_makeWorlds rfl (ck_k e10) (by decide) im_X1_makeWorlds sl_X1_makeWorlds lk_X2_190 rfl rfl rfl dX2_makeWorldsOnce_21 (Nat.le_of_ble_eq_true rfl) ⟨Nat.le_of_ble_eq_true rfl, Nat.le_of_ble_eq_true rfl⟩ ⟨Nat.le_of_ble_eq_true rfl, Nat.le_of_ble_eq_true rfl⟩ ?_
    refine r_aload_n C dX2_makeWorldsOnce_24 rfl ?_
    obtain ⟨t14, e15, hf0⟩ := ob hf0
    refine r_getR C fk_X2_26 rfl dX2_makeWorldsOnce_25 e15 ?_
    refine r_lconst (v := 0) C dX2_makeWorldsOnce_28 (by decide) ?_
    obtain ⟨h16, e17, hf0⟩ := ob hf0
    refine r_cS (rest := []) (st2 := []) C (s_J7_fill_d0a16 e17) mk_J7_fill_d0a16 sm_J7_fill_d0a16 lk_X2_194 rfl rfl rfl dX2_makeWorldsOnce_29 (Nat.le_of_ble_eq_true rfl) ⟨Nat.le_of_ble_eq_true rfl, Nat.le_of_ble_eq_true rfl⟩ ⟨Nat.le_of_ble_eq_true rfl, Nat.le_of_ble_eq_true rfl⟩ ?_
    refine r_aload_n C dX2_makeWorldsOnce_32 rfl ?_
    obtain ⟨t18, e19, hf0⟩ := ob hf0
    refine r_getR C fk_X2_22 rfl dX2_makeWorldsOnce_33 e19 ?_
    refine r_lconst (v := 0) C dX2_makeWorldsOnce_36 (by decide) ?_
    obtain ⟨h20, e21, hf0⟩ := ob hf0
    refine r_cS (rest := []) (st2 := []) C (s_J7_fill_d0a16 e21) mk_J7_fill_d0a16 sm_J7_fill_d0a16 lk_X2_194 rfl rfl rfl dX2_makeWorldsOnce_37 (Nat.le_of_ble_eq_true rfl) ⟨Nat.le_of_ble_eq_true rfl, Nat.le_of_ble_eq_true rfl⟩ ⟨Nat.le_of_ble_eq_true rfl, Nat.le_of_ble_eq_true rfl⟩ ?_
    refine r_iconst (v := 0) C dX2_makeWorldsOnce_40 (by decide) ?_
    refine r_istore_n (lv' := [(1, .int (0 : Int32)), (0, .ref v0)]) C dX2_makeWorldsOnce_41 (by decide) rfl rfl ?_
    obtain ⟨y22, hl42, hf0⟩ := ob hf0
    have L42 : ∀ (n : Nat) (t23 : Int32) (h24 : aH), whileL n (fun q : Int32 × aH => f_X2_makeWorldsOnce_b42 v0 q.1 q.2) (t23, h24) = some y22 → gW p l e (rmO 3 0 0) s m args below meth c (MQ below (eQ D cA B Hb out none) args s 0 0 (fun q => B ≤ q)) D cA B Hb 5 h24 42 [(0, .ref v0), (1, .int t23)] [] 0 0 := by
      intro n
      induction n with
      | zero => intro t23 h24 hz; cases hz
      | succ n ih42 =>
        intro t23 h24 hz
        obtain ⟨x42, hf1, hk42⟩ := wl hz
        replace hf1 : f_X2_makeWorldsOnce_b42 v0 t23 h24 = some x42 := hf1
        unfold f_X2_makeWorldsOnce_b42 at hf1
        have J131 : ∀ (h25 : aH) (t26 : Int32), f_X2_makeWorldsOnce_j131 h25 v0 t26 = some x42 → gW p l e (rmO 3 0 0) s m args below meth c (MQ below (eQ D cA B Hb out none) args s 0 0 (fun q => B ≤ q)) D cA B Hb 5 h25 131 [(0, .ref v0), (1, .int t26)] [] 0 0 := by
          intro h25 t26 hf1
          unfold f_X2_makeWorldsOnce_j131 at hf1
          obtain ⟨t27, e28, hf1⟩ := ob hf1
          refine r_iinc (lv' := [(1, .int t27), (0, .ref v0)]) C dX2_makeWorldsOnce_131 rfl e28 (by decide) rfl ?_
          refine r_goto (tgt := 42) C dX2_makeWorldsOnce_134 (by decide) ?_
          obtain rfl := so hf1
          refine r_subk [1, 0] (lv' := [(0, .ref v0), (1, .int t27)]) rfl ?_
          exact ih42 t27 h25 hk42
        refine r_iload_n C dX2_makeWorldsOnce_42 rfl ?_
        refine r_aload_n C dX2_makeWorldsOnce_43 rfl ?_
        obtain ⟨t29, e30, hf1⟩ := ob hf1
        refine r_getR C fk_X2_40 rfl dX2_makeWorldsOnce_44 e30 ?_
        obtain ⟨t31, e32, hf1⟩ := ob hf1
        refine r_getI C fk_X2_143 rfl dX2_makeWorldsOnce_47 e32 ?_
        refine r_icmp_ge (tgt := 137) C dX2_makeWorldsOnce_50 (by decide) (fun c33 => ?_) (fun c33 => ?_)
        · rw [if_pos c33] at hf1
          obtain rfl := so hf1
          obtain rfl := so (show some h24 = some y22 from hk42)
          obtain rfl := so hf0
          exact r_vret C dX2_makeWorldsOnce_137
        · rw [if_neg c33] at hf1
          refine r_aload_n C dX2_makeWorldsOnce_53 rfl ?_
          obtain ⟨t34, e35, hf1⟩ := ob hf1
          refine r_getR C fk_X2_40 rfl dX2_makeWorldsOnce_54 e35 ?_
          refine r_iload_n C dX2_makeWorldsOnce_57 rfl ?_
          obtain ⟨u37, e36, hf1⟩ := ob hf1
          obtain ⟨t38, e39, hf1⟩ := ob hf1
          refine r_cV (ci := 1) (rest := []) (st2 := [.int t38]) C (s_X1_canBe e39) mk_X1_canBe rfl (ck_k e36) (by decide) im_X1_canBe sl_X1_canBe lk_X2_197 rfl rfl rfl dX2_makeWorldsOnce_58 (Nat.le_of_ble_eq_true rfl) ⟨Nat.le_of_ble_eq_true rfl, Nat.le_of_ble_eq_true rfl⟩ ⟨Nat.le_of_ble_eq_true rfl, Nat.le_of_ble_eq_true rfl⟩ ?_
          refine r_ifeq (tgt := 131) C dX2_makeWorldsOnce_61 (by decide) (fun c40 => ?_) (fun c40 => ?_)
          · rw [if_pos c40] at hf1
            exact J131 h24 t23 hf1
          · rw [if_neg c40] at hf1
            refine r_lconst (v := 1) C dX2_makeWorldsOnce_64 (by decide) ?_
            refine r_iload_n C dX2_makeWorldsOnce_65 rfl ?_
            refine r_bipush (v := 63) C dX2_makeWorldsOnce_66 (by decide) ?_
            refine r_iand C dX2_makeWorldsOnce_68 ?_
            refine r_lshl C dX2_makeWorldsOnce_69 ?_
            obtain ⟨t41, e42, hf1⟩ := ob hf1
            refine r_lstore_n (lv' := [(2, .long t41), (0, .ref v0), (1, .int t23)]) C dX2_makeWorldsOnce_70 (by decide) e42 rfl ?_
            refine r_aload_n C dX2_makeWorldsOnce_71 rfl ?_
            obtain ⟨t43, e44, hf1⟩ := ob hf1
            refine r_getR C fk_X2_26 rfl dX2_makeWorldsOnce_72 e44 ?_
            refine r_iload_n C dX2_makeWorldsOnce_75 rfl ?_
            refine r_bipush (v := 6) C dX2_makeWorldsOnce_76 (by decide) ?_
            refine r_ishr C dX2_makeWorldsOnce_78 ?_
            refine r_dup2 C dX2_makeWorldsOnce_79 rfl rfl ?_
            obtain ⟨t45, e46, hf1⟩ := ob hf1
            refine r_ldJ C dX2_makeWorldsOnce_80 e46 ?_
            refine r_lload_n C dX2_makeWorldsOnce_81 rfl ?_
            refine r_lor C dX2_makeWorldsOnce_82 ?_
            obtain ⟨h47, e48, hf1⟩ := ob hf1
            refine r_stJ C dX2_makeWorldsOnce_83 e48 ?_
            refine r_iconst (v := 0) C dX2_makeWorldsOnce_84 (by decide) ?_
            refine r_istore (lv' := [(4, .int (0 : Int32)), (2, .long t41), (0, .ref v0), (1, .int t23)]) C dX2_makeWorldsOnce_85 (by decide) rfl rfl ?_
            obtain ⟨y49, hl87, hf1⟩ := ob hf1
            have L87 : ∀ (n : Nat) (t50 : Int32) (h51 : aH), whileL n (fun q : Int32 × aH => f_X2_makeWorldsOnce_b87 v0 t23 t41 q.1 q.2) (t50, h51) = some y49 → gW p l e (rmO 3 0 0) s m args below meth c (MQ below (eQ D cA B Hb out none) args s 0 0 (fun q => B ≤ q)) D cA B Hb 5 h51 87 [(0, .ref v0), (1, .int t23), (2, .long t41), (4, .int t50)] [] 0 0 := by
              intro n
              induction n with
              | zero => intro t50 h51 hz; cases hz
              | succ n ih87 =>
                intro t50 h51 hz
                obtain ⟨x87, hf2, hk87⟩ := wl hz
                replace hf2 : f_X2_makeWorldsOnce_b87 v0 t23 t41 t50 h51 = some x87 := hf2
                unfold f_X2_makeWorldsOnce_b87 at hf2
                refine r_iload C dX2_makeWorldsOnce_87 rfl ?_
                refine r_aload_n C dX2_makeWorldsOnce_89 rfl ?_
                obtain ⟨t52, e53, hf2⟩ := ob hf2
                refine r_getR C fk_X2_40 rfl dX2_makeWorldsOnce_90 e53 ?_
                obtain ⟨t54, e55, hf2⟩ := ob hf2
                refine r_getI C fk_X2_85 rfl dX2_makeWorldsOnce_93 e55 ?_
                refine r_icmp_ge (tgt := 131) C dX2_makeWorldsOnce_96 (by decide) (fun c56 => ?_) (fun c56 => ?_)
                · rw [if_pos c56] at hf2
                  obtain rfl := so hf2
                  obtain rfl := so (show some h51 = some y49 from hk87)
                  refine r_subk [0, 1] (lv' := [(0, .ref v0), (1, .int t23)]) rfl ?_
                  exact J131 h51 t23 hf1
                · rw [if_neg c56] at hf2
                  refine r_aload_n C dX2_makeWorldsOnce_99 rfl ?_
                  obtain ⟨t57, e58, hf2⟩ := ob hf2
                  refine r_getR C fk_X2_22 rfl dX2_makeWorldsOnce_100 e58 ?_
                  refine r_aload_n C dX2_makeWorldsOnce_103 rfl ?_
                  obtain ⟨t59, e60, hf2⟩ := ob hf2
                  refine r_getR C fk_X2_40 rfl dX2_makeWorldsOnce_104 e60 ?_
                  refine r_iload_n C dX2_makeWorldsOnce_107 rfl ?_
                  refine r_iload C dX2_makeWorldsOnce_108 rfl ?_
                  obtain ⟨u62, e61, hf2⟩ := ob hf2
                  obtain ⟨t63, e64, hf2⟩ := ob hf2
                  refine r_cV (ci := 1) (rest := [.ref t57]) (st2 := [.int t63, .ref t57]) C (s_X1_valueIn e64) mk_X1_valueIn rfl (ck_k e61) (by decide) im_X1_valueIn sl_X1_valueIn lk_X2_200 rfl rfl rfl dX2_makeWorldsOnce_110 (Nat.le_of_ble_eq_true rfl) ⟨Nat.le_of_ble_eq_true rfl, Nat.le_of_ble_eq_true rfl⟩ ⟨Nat.le_of_ble_eq_true rfl, Nat.le_of_ble_eq_true rfl⟩ ?_
                  refine r_iconst (v := 4) C dX2_makeWorldsOnce_113 (by decide) ?_
                  refine r_imul C dX2_makeWorldsOnce_114 ?_
                  refine r_iload_n C dX2_makeWorldsOnce_115 rfl ?_
                  refine r_bipush (v := 6) C dX2_makeWorldsOnce_116 (by decide) ?_
                  refine r_ishr C dX2_makeWorldsOnce_118 ?_
                  refine r_iadd C dX2_makeWorldsOnce_119 ?_
                  refine r_dup2 C dX2_makeWorldsOnce_120 rfl rfl ?_
                  obtain ⟨t65, e66, hf2⟩ := ob hf2
                  refine r_ldJ C dX2_makeWorldsOnce_121 e66 ?_
                  refine r_lload_n C dX2_makeWorldsOnce_122 rfl ?_
                  refine r_lor C dX2_makeWorldsOnce_123 ?_
                  obtain ⟨h67, e68, hf2⟩ := ob hf2
                  refine r_stJ C dX2_makeWorldsOnce_124 e68 ?_
                  obtain ⟨t69, e70, hf2⟩ := ob hf2
                  refine r_iinc (lv' := [(4, .int t69), (0, .ref v0), (1, .int t23), (2, .long t41)]) C dX2_makeWorldsOnce_125 rfl e70 (by decide) rfl ?_
                  refine r_goto (tgt := 87) C dX2_makeWorldsOnce_128 (by decide) ?_
                  obtain rfl := so hf2
                  refine r_subk [1, 2, 3, 0] (lv' := [(0, .ref v0), (1, .int t23), (2, .long t41), (4, .int t69)]) rfl ?_
                  exact ih87 t69 h67 hk87
            refine r_subk [2, 3, 1, 0] (lv' := [(0, .ref v0), (1, .int t23), (2, .long t41), (4, .int (0 : Int32))]) rfl ?_
            exact L87 wN (0 : Int32) h47 hl87
    refine r_subk [1, 0] (lv' := [(0, .ref v0), (1, .int (0 : Int32))]) rfl ?_
    exact L42 wN (0 : Int32) h20 hl42
  · rw [if_neg c3] at hf0
    obtain rfl := so hf0
    exact r_vret C dX2_makeWorldsOnce_7
def f_X2_readOne_b140 (g_X2_readOne : aH → Nat → Int32 → Option (Int32 × aH)) (g_X2_readEither : aH → Nat → Int32 → Option (Int32 × aH)) (v0 : Nat) (v2 : Int32) (v3 : Int32) (v4 : Int32) (h : aH) : Option ((Int32 × aH) ⊕ (aH)) := if (4 : Int32) ≤ v4 then some (.inr h) else (gR h 2 v0 5).bind fun t17 => (gR h 2 v0 4).bind fun t18 => (lJ h t18 v4).bind fun t19 => (gR h 2 v0 5).bind fun t20 => (lJ h t20 ((v3 + (8 : Int32)) + v4)).bind fun t21 => (sJ h t17 (v2 + v4) (t19 &&& (t21 ^^^ (-1 : Int64)))).bind fun h22 => (some (v4 + (1 : Int32))).bind fun t23 => some (.inl (t23, h22))
def f_X2_readOne_l140 (g_X2_readOne : aH → Nat → Int32 → Option (Int32 × aH)) (g_X2_readEither : aH → Nat → Int32 → Option (Int32 × aH)) (v0 : Nat) (v2 : Int32) (v3 : Int32) (v4 : Int32) (h : aH) : Option (aH) := whileL wN (fun q : Int32 × aH => f_X2_readOne_b140 g_X2_readOne g_X2_readEither v0 v2 v3 q.1 q.2) (v4, h)
def f_X2_readOne_j90 (g_X2_readOne : aH → Nat → Int32 → Option (Int32 × aH)) (g_X2_readEither : aH → Nat → Int32 → Option (Int32 × aH)) (h : aH) (v0 : Nat) (v1 : Int32) (v2 : Int32) (v3 : Int32) : Option (Int32 × aH) := if v1 < (6 : Int32) then (gR h 2 v0 0).bind fun t1 => (gI h 4 t1 10).bind fun t2 => if t2 = (20 : Int32) then (gR h 2 v0 0).bind fun t13 => (ck h 4 t13).bind fun _ => (f_X4_advance h t13).bind fun h14 => (ck h14 2 v0).bind fun _ => bd2 (g_X2_readOne h14 v0 (v1 + (1 : Int32))) fun t15 h16 => if t15 = 0 then some ((0 : Int32), h16) else (f_X2_readOne_l140 g_X2_readOne g_X2_readEither v0 v2 v3 (0 : Int32) h16).bind fun h24 => some ((1 : Int32), h24) else (gR h 2 v0 0).bind fun t3 => (ck h 4 t3).bind fun _ => (f_X4_advance h t3).bind fun h4 => (ck h4 2 v0).bind fun _ => bd2 (g_X2_readEither h4 v0 (v1 + (1 : Int32))) fun t5 h6 => if t5 = 0 then some ((0 : Int32), h6) else (gR h6 2 v0 0).bind fun t7 => (ck h6 4 t7).bind fun _ => bd2 (f_X4_take h6 t7 (5 : Int32)) fun t8 h9 => if t8 = 0 then some ((0 : Int32), h9) else (gR h9 2 v0 5).bind fun t10 => (gR h9 2 v0 5).bind fun t11 => (cpJ h9 t10 v3 t11 v2 (4 : Int32)).bind fun h12 => some ((1 : Int32), h12) else (gR h 2 v0 0).bind fun t25 => (ck h 4 t25).bind fun _ => bd2 (f_X4_refuseHere h t25 (7 : Int32)) fun t26 h27 => (rZ t26).bind fun t28 => some (t28, h27)
def f_X2_readOne_g (g_X2_readOne : aH → Nat → Int32 → Option (Int32 × aH)) (g_X2_readEither : aH → Nat → Int32 → Option (Int32 × aH)) (h : aH) (v0 : Nat) (v1 : Int32) : Option (Int32 × aH) := (some (((v1 * (3 : Int32)) + (2 : Int32)) * (4 : Int32))).bind fun t29 => (some (((v1 + (1 : Int32)) * (3 : Int32)) * (4 : Int32))).bind fun t30 => (gR h 2 v0 0).bind fun t31 => (gI h 4 t31 10).bind fun t32 => if t32 = (20 : Int32) then f_X2_readOne_j90 g_X2_readOne g_X2_readEither h v0 v1 t29 t30 else (gR h 2 v0 0).bind fun t33 => (gI h 4 t33 10).bind fun t34 => if t34 = (4 : Int32) then f_X2_readOne_j90 g_X2_readOne g_X2_readEither h v0 v1 t29 t30 else (gR h 2 v0 0).bind fun t35 => (gR h 2 v0 6).bind fun t36 => (gR h 1 t36 0).bind fun t37 => (ck h 4 t35).bind fun _ => bd2 (f_X4_seekName h t35 t37 (1 : Int32)) fun t38 h39 => if t38 = (-1 : Int32) then some ((0 : Int32), h39) else (gR h39 2 v0 0).bind fun t40 => (ck h39 4 t40).bind fun _ => (f_X4_advance h39 t40).bind fun h41 => (gR h41 2 v0 3).bind fun t42 => (gR h41 2 v0 5).bind fun t43 => (cpJ h41 t42 (t38 * (4 : Int32)) t43 t29 (4 : Int32)).bind fun h44 => some ((1 : Int32), h44)
theorem s_X2_readOne_g {g_X2_readOne : aH → Nat → Int32 → Option (Int32 × aH)} {g_X2_readEither : aH → Nat → Int32 → Option (Int32 × aH)} {d d0 d1 : Nat} (hd : 1 ≤ d) (hd0 : d0 ≤ d) (H_X2_readOne : ∀ (h : aH) (v0 : Nat) (v1 : Int32) (out : Int32 × aH), g_X2_readOne h v0 v1 = some out → EV d0 yX2_readOne cX2_readOne 5 (some .boolean) h [.ref v0, .int v1] (some (.int out.1)) out.2 0 0) (hd1 : d1 ≤ d) (H_X2_readEither : ∀ (h : aH) (v0 : Nat) (v1 : Int32) (out : Int32 × aH), g_X2_readEither h v0 v1 = some out → EV d1 yX2_readEither cX2_readEither 6 (some .boolean) h [.ref v0, .int v1] (some (.int out.1)) out.2 0 0) {h : aH} {v0 : Nat} {v1 : Int32} {out : Int32 × aH} (hf0 : f_X2_readOne_g g_X2_readOne g_X2_readEither h v0 v1 = some out) : EV (d + 1) yX2_readOne cX2_readOne 5 (some .boolean) h [.ref v0, .int v1] (some (.int out.1)) out.2 0 0 := by
  refine EV.of (own := RX2) (lv0 := [(0, .ref v0), (1, .int v1)]) (by decide +kernel) rfl rfl (Nat.le_of_ble_eq_true rfl) ?_
  intro p l e s m args below meth c D cA B Hb C hin
  unfold f_X2_readOne_g at hf0
  have J90 : ∀ (h1 : aH) (t2 : Nat) (t3 : Int32) (t4 : Int32) (t5 : Int32), f_X2_readOne_j90 g_X2_readOne g_X2_readEither h1 t2 t3 t4 t5 = some out → gW p l e (rmO (d + 1) 0 0) s m args below meth c (MQ below (eQ D cA B Hb out.2 (some (.int out.1))) args s 0 0 (fun q => B ≤ q)) D cA B Hb 5 h1 90 [(0, .ref t2), (1, .int t3), (2, .int t4), (3, .int t5)] [] 0 0 := by
    intro h1 t2 t3 t4 t5 hf0
    unfold f_X2_readOne_j90 at hf0
    refine r_iload_n C dX2_readOne_90 rfl ?_
    refine r_bipush (v := 6) C dX2_readOne_91 (by decide) ?_
    refine r_icmp_lt (tgt := 106) C dX2_readOne_93 (by decide) (fun c6 => ?_) (fun c6 => ?_)
    · rw [if_pos c6] at hf0
      refine r_aload_n C dX2_readOne_106 rfl ?_
      obtain ⟨t7, e8, hf0⟩ := ob hf0
      refine r_getR C fk_X2_36 rfl dX2_readOne_107 e8 ?_
      obtain ⟨t9, e10, hf0⟩ := ob hf0
      refine r_getI C fk_X2_55 rfl dX2_readOne_110 e10 ?_
      refine r_bipush (v := 20) C dX2_readOne_113 (by decide) ?_
      refine r_icmp_ne (tgt := 187) C dX2_readOne_115 (by decide) (fun c11 => ?_) (fun c11 => ?_)
      · rw [if_neg c11] at hf0
        refine r_aload_n C dX2_readOne_187 rfl ?_
        obtain ⟨t12, e13, hf0⟩ := ob hf0
        refine r_getR C fk_X2_36 rfl dX2_readOne_188 e13 ?_
        obtain ⟨u15, e14, hf0⟩ := ob hf0
        obtain ⟨h16, e17, hf0⟩ := ob hf0
        refine r_cV (ci := 4) (rest := []) (st2 := []) C (s_X4_advance e17) mk_X4_advance rfl (ck_k e14) (by decide) im_X4_advance sl_X4_advance lk_X2_91 rfl rfl rfl dX2_readOne_191 (Nat.le_of_ble_eq_true rfl) ⟨(by simp only [rmO]; omega), (by simp only [rmO]; omega)⟩ ⟨Nat.le_of_ble_eq_true rfl, Nat.le_of_ble_eq_true rfl⟩ ?_
        refine r_aload_n C dX2_readOne_194 rfl ?_
        refine r_iload_n C dX2_readOne_195 rfl ?_
        refine r_iconst (v := 1) C dX2_readOne_196 (by decide) ?_
        refine r_iadd C dX2_readOne_197 ?_
        obtain ⟨u19, e18, hf0⟩ := ob hf0
        obtain ⟨t20, h21, e22, hf0⟩ := ob2 hf0
        refine r_cV (ci := 2) (rest := []) (st2 := [.int t20]) C (H_X2_readEither _ _ _ _ e22) mk_X2_readEither rfl (ck_k e18) (by decide) im_X2_readEither sl_X2_readEither lk_X2_153 rfl rfl rfl dX2_readOne_198 (Nat.le_of_ble_eq_true rfl) ⟨(by simp only [rmO]; omega), (by simp only [rmO]; omega)⟩ ⟨Nat.le_of_ble_eq_true rfl, Nat.le_of_ble_eq_true rfl⟩ ?_
        refine r_ifeq (tgt := 215) C dX2_readOne_201 (by decide) (fun c23 => ?_) (fun c23 => ?_)
        · rw [if_pos c23] at hf0
          refine r_iconst (v := 0) C dX2_readOne_215 (by decide) ?_
          obtain rfl := so hf0
          exact r_zret C dX2_readOne_216 (Or.inl rfl)
        · rw [if_neg c23] at hf0
          refine r_aload_n C dX2_readOne_204 rfl ?_
          obtain ⟨t24, e25, hf0⟩ := ob hf0
          refine r_getR C fk_X2_36 rfl dX2_readOne_205 e25 ?_
          refine r_iconst (v := 5) C dX2_readOne_208 (by decide) ?_
          obtain ⟨u27, e26, hf0⟩ := ob hf0
          obtain ⟨t28, h29, e30, hf0⟩ := ob2 hf0
          refine r_cV (ci := 4) (rest := []) (st2 := [.int t28]) C (s_X4_take e30) mk_X4_take rfl (ck_k e26) (by decide) im_X4_take sl_X4_take lk_X2_98 rfl rfl rfl dX2_readOne_209 (Nat.le_of_ble_eq_true rfl) ⟨(by simp only [rmO]; omega), (by simp only [rmO]; omega)⟩ ⟨Nat.le_of_ble_eq_true rfl, Nat.le_of_ble_eq_true rfl⟩ ?_
          refine r_ifne (tgt := 217) C dX2_readOne_212 (by decide) (fun c31 => ?_) (fun c31 => ?_)
          · rw [if_neg c31] at hf0
            refine r_aload_n C dX2_readOne_217 rfl ?_
            obtain ⟨t32, e33, hf0⟩ := ob hf0
            refine r_getR C fk_X2_29 rfl dX2_readOne_218 e33 ?_
            refine r_iload_n C dX2_readOne_221 rfl ?_
            refine r_aload_n C dX2_readOne_222 rfl ?_
            obtain ⟨t34, e35, hf0⟩ := ob hf0
            refine r_getR C fk_X2_29 rfl dX2_readOne_223 e35 ?_
            refine r_iload_n C dX2_readOne_226 rfl ?_
            refine r_iconst (v := 4) C dX2_readOne_227 (by decide) ?_
            obtain ⟨h36, e37, hf0⟩ := ob hf0
            refine r_cpJ C lk_X2_206 dX2_readOne_228 ⟨Nat.le_of_ble_eq_true rfl, Nat.le_of_ble_eq_true rfl⟩ (by decide) e37 ?_
            refine r_iconst (v := 1) C dX2_readOne_231 (by decide) ?_
            obtain rfl := so hf0
            exact r_zret C dX2_readOne_232 (Or.inr rfl)
          · rw [if_pos c31] at hf0
            refine r_iconst (v := 0) C dX2_readOne_215 (by decide) ?_
            obtain rfl := so hf0
            exact r_zret C dX2_readOne_216 (Or.inl rfl)
      · rw [if_pos c11] at hf0
        refine r_aload_n C dX2_readOne_118 rfl ?_
        obtain ⟨t38, e39, hf0⟩ := ob hf0
        refine r_getR C fk_X2_36 rfl dX2_readOne_119 e39 ?_
        obtain ⟨u41, e40, hf0⟩ := ob hf0
        obtain ⟨h42, e43, hf0⟩ := ob hf0
        refine r_cV (ci := 4) (rest := []) (st2 := []) C (s_X4_advance e43) mk_X4_advance rfl (ck_k e40) (by decide) im_X4_advance sl_X4_advance lk_X2_91 rfl rfl rfl dX2_readOne_122 (Nat.le_of_ble_eq_true rfl) ⟨(by simp only [rmO]; omega), (by simp only [rmO]; omega)⟩ ⟨Nat.le_of_ble_eq_true rfl, Nat.le_of_ble_eq_true rfl⟩ ?_
        refine r_aload_n C dX2_readOne_125 rfl ?_
        refine r_iload_n C dX2_readOne_126 rfl ?_
        refine r_iconst (v := 1) C dX2_readOne_127 (by decide) ?_
        refine r_iadd C dX2_readOne_128 ?_
        obtain ⟨u45, e44, hf0⟩ := ob hf0
        obtain ⟨t46, h47, e48, hf0⟩ := ob2 hf0
        refine r_cV (ci := 2) (rest := []) (st2 := [.int t46]) C (H_X2_readOne _ _ _ _ e48) mk_X2_readOne rfl (ck_k e44) (by decide) im_X2_readOne sl_X2_readOne lk_X2_212 rfl rfl rfl dX2_readOne_129 (Nat.le_of_ble_eq_true rfl) ⟨(by simp only [rmO]; omega), (by simp only [rmO]; omega)⟩ ⟨Nat.le_of_ble_eq_true rfl, Nat.le_of_ble_eq_true rfl⟩ ?_
        refine r_ifne (tgt := 137) C dX2_readOne_132 (by decide) (fun c49 => ?_) (fun c49 => ?_)
        · rw [if_neg c49] at hf0
          refine r_iconst (v := 0) C dX2_readOne_137 (by decide) ?_
          refine r_istore (lv' := [(4, .int (0 : Int32)), (0, .ref t2), (1, .int t3), (2, .int t4), (3, .int t5)]) C dX2_readOne_138 (by decide) rfl rfl ?_
          obtain ⟨y50, hl140, hf0⟩ := ob hf0
          have L140 : ∀ (n : Nat) (t51 : Int32) (h52 : aH), whileL n (fun q : Int32 × aH => f_X2_readOne_b140 g_X2_readOne g_X2_readEither t2 t4 t5 q.1 q.2) (t51, h52) = some y50 → gW p l e (rmO (d + 1) 0 0) s m args below meth c (MQ below (eQ D cA B Hb out.2 (some (.int out.1))) args s 0 0 (fun q => B ≤ q)) D cA B Hb 5 h52 140 [(0, .ref t2), (2, .int t4), (3, .int t5), (4, .int t51)] [] 0 0 := by
            intro n
            induction n with
            | zero => intro t51 h52 hz; cases hz
            | succ n ih140 =>
              intro t51 h52 hz
              obtain ⟨x140, hf1, hk140⟩ := wl hz
              replace hf1 : f_X2_readOne_b140 g_X2_readOne g_X2_readEither t2 t4 t5 t51 h52 = some x140 := hf1
              unfold f_X2_readOne_b140 at hf1
              refine r_iload C dX2_readOne_140 rfl ?_
              refine r_iconst (v := 4) C dX2_readOne_142 (by decide) ?_
              refine r_icmp_ge (tgt := 185) C dX2_readOne_143 (by decide) (fun c53 => ?_) (fun c53 => ?_)
              · rw [if_pos c53] at hf1
                obtain rfl := so hf1
                obtain rfl := so (show some h52 = some y50 from hk140)
                refine r_iconst (v := 1) C dX2_readOne_185 (by decide) ?_
                obtain rfl := so hf0
                exact r_zret C dX2_readOne_186 (Or.inr rfl)
              · rw [if_neg c53] at hf1
                refine r_aload_n C dX2_readOne_146 rfl ?_
                obtain ⟨t54, e55, hf1⟩ := ob hf1
                refine r_getR C fk_X2_29 rfl dX2_readOne_147 e55 ?_
                refine r_iload_n C dX2_readOne_150 rfl ?_
                refine r_iload C dX2_readOne_151 rfl ?_
                refine r_iadd C dX2_readOne_153 ?_
                refine r_aload_n C dX2_readOne_154 rfl ?_
                obtain ⟨t56, e57, hf1⟩ := ob hf1
                refine r_getR C fk_X2_26 rfl dX2_readOne_155 e57 ?_
                refine r_iload C dX2_readOne_158 rfl ?_
                obtain ⟨t58, e59, hf1⟩ := ob hf1
                refine r_ldJ C dX2_readOne_160 e59 ?_
                refine r_aload_n C dX2_readOne_161 rfl ?_
                obtain ⟨t60, e61, hf1⟩ := ob hf1
                refine r_getR C fk_X2_29 rfl dX2_readOne_162 e61 ?_
                refine r_iload_n C dX2_readOne_165 rfl ?_
                refine r_bipush (v := 8) C dX2_readOne_166 (by decide) ?_
                refine r_iadd C dX2_readOne_168 ?_
                refine r_iload C dX2_readOne_169 rfl ?_
                refine r_iadd C dX2_readOne_171 ?_
                obtain ⟨t62, e63, hf1⟩ := ob hf1
                refine r_ldJ C dX2_readOne_172 e63 ?_
                refine r_ldc2 (v := -1) C dX2_readOne_173 cl_X2_215 ?_
                refine r_lxor C dX2_readOne_176 ?_
                refine r_land C dX2_readOne_177 ?_
                obtain ⟨h64, e65, hf1⟩ := ob hf1
                refine r_stJ C dX2_readOne_178 e65 ?_
                obtain ⟨t66, e67, hf1⟩ := ob hf1
                refine r_iinc (lv' := [(4, .int t66), (0, .ref t2), (2, .int t4), (3, .int t5)]) C dX2_readOne_179 rfl e67 (by decide) rfl ?_
                refine r_goto (tgt := 140) C dX2_readOne_182 (by decide) ?_
                obtain rfl := so hf1
                refine r_subk [1, 2, 3, 0] (lv' := [(0, .ref t2), (2, .int t4), (3, .int t5), (4, .int t66)]) rfl ?_
                exact ih140 t66 h64 hk140
          refine r_subk [1, 3, 4, 0] (lv' := [(0, .ref t2), (2, .int t4), (3, .int t5), (4, .int (0 : Int32))]) rfl ?_
          exact L140 wN (0 : Int32) h47 hl140
        · rw [if_pos c49] at hf0
          refine r_iconst (v := 0) C dX2_readOne_135 (by decide) ?_
          obtain rfl := so hf0
          exact r_zret C dX2_readOne_136 (Or.inl rfl)
    · rw [if_neg c6] at hf0
      refine r_aload_n C dX2_readOne_96 rfl ?_
      obtain ⟨t68, e69, hf0⟩ := ob hf0
      refine r_getR C fk_X2_36 rfl dX2_readOne_97 e69 ?_
      refine r_bipush (v := 7) C dX2_readOne_100 (by decide) ?_
      obtain ⟨u71, e70, hf0⟩ := ob hf0
      obtain ⟨t72, h73, e74, hf0⟩ := ob2 hf0
      refine r_cV (ci := 4) (rest := []) (st2 := [.int t72]) C (s_X4_refuseHere e74) mk_X4_refuseHere rfl (ck_k e70) (by decide) im_X4_refuseHere sl_X4_refuseHere lk_X2_74 rfl rfl rfl dX2_readOne_102 (Nat.le_of_ble_eq_true rfl) ⟨(by simp only [rmO]; omega), (by simp only [rmO]; omega)⟩ ⟨Nat.le_of_ble_eq_true rfl, Nat.le_of_ble_eq_true rfl⟩ ?_
      obtain ⟨t75, e76, hf0⟩ := ob hf0
      obtain ⟨rfl, e76z⟩ := rZ_k e76
      obtain rfl := so hf0
      exact r_zret C dX2_readOne_105 e76z
  refine r_iload_n C dX2_readOne_0 rfl ?_
  refine r_iconst (v := 3) C dX2_readOne_1 (by decide) ?_
  refine r_imul C dX2_readOne_2 ?_
  refine r_iconst (v := 2) C dX2_readOne_3 (by decide) ?_
  refine r_iadd C dX2_readOne_4 ?_
  refine r_iconst (v := 4) C dX2_readOne_5 (by decide) ?_
  refine r_imul C dX2_readOne_6 ?_
  obtain ⟨t77, e78, hf0⟩ := ob hf0
  refine r_istore_n (lv' := [(2, .int t77), (0, .ref v0), (1, .int v1)]) C dX2_readOne_7 (by decide) e78 rfl ?_
  refine r_iload_n C dX2_readOne_8 rfl ?_
  refine r_iconst (v := 1) C dX2_readOne_9 (by decide) ?_
  refine r_iadd C dX2_readOne_10 ?_
  refine r_iconst (v := 3) C dX2_readOne_11 (by decide) ?_
  refine r_imul C dX2_readOne_12 ?_
  refine r_iconst (v := 4) C dX2_readOne_13 (by decide) ?_
  refine r_imul C dX2_readOne_14 ?_
  obtain ⟨t79, e80, hf0⟩ := ob hf0
  refine r_istore_n (lv' := [(3, .int t79), (2, .int t77), (0, .ref v0), (1, .int v1)]) C dX2_readOne_15 (by decide) e80 rfl ?_
  refine r_aload_n C dX2_readOne_16 rfl ?_
  obtain ⟨t81, e82, hf0⟩ := ob hf0
  refine r_getR C fk_X2_36 rfl dX2_readOne_17 e82 ?_
  obtain ⟨t83, e84, hf0⟩ := ob hf0
  refine r_getI C fk_X2_55 rfl dX2_readOne_20 e84 ?_
  refine r_bipush (v := 20) C dX2_readOne_23 (by decide) ?_
  refine r_icmp_eq (tgt := 90) C dX2_readOne_25 (by decide) (fun c85 => ?_) (fun c85 => ?_)
  · rw [if_pos c85] at hf0
    refine r_subk [2, 3, 1, 0] (lv' := [(0, .ref v0), (1, .int v1), (2, .int t77), (3, .int t79)]) rfl ?_
    exact J90 h v0 v1 t77 t79 hf0
  · rw [if_neg c85] at hf0
    refine r_aload_n C dX2_readOne_28 rfl ?_
    obtain ⟨t86, e87, hf0⟩ := ob hf0
    refine r_getR C fk_X2_36 rfl dX2_readOne_29 e87 ?_
    obtain ⟨t88, e89, hf0⟩ := ob hf0
    refine r_getI C fk_X2_55 rfl dX2_readOne_32 e89 ?_
    refine r_iconst (v := 4) C dX2_readOne_35 (by decide) ?_
    refine r_icmp_eq (tgt := 90) C dX2_readOne_36 (by decide) (fun c90 => ?_) (fun c90 => ?_)
    · rw [if_pos c90] at hf0
      refine r_subk [2, 3, 1, 0] (lv' := [(0, .ref v0), (1, .int v1), (2, .int t77), (3, .int t79)]) rfl ?_
      exact J90 h v0 v1 t77 t79 hf0
    · rw [if_neg c90] at hf0
      refine r_aload_n C dX2_readOne_39 rfl ?_
      obtain ⟨t91, e92, hf0⟩ := ob hf0
      refine r_getR C fk_X2_36 rfl dX2_readOne_40 e92 ?_
      refine r_aload_n C dX2_readOne_43 rfl ?_
      obtain ⟨t93, e94, hf0⟩ := ob hf0
      refine r_getR C fk_X2_40 rfl dX2_readOne_44 e94 ?_
      obtain ⟨t95, e96, hf0⟩ := ob hf0
      refine r_getR C fk_X2_116 rfl dX2_readOne_47 e96 ?_
      refine r_iconst (v := 1) C dX2_readOne_50 (by decide) ?_
      obtain ⟨u98, e97, hf0⟩ := ob hf0
      obtain ⟨t99, h100, e101, hf0⟩ := ob2 hf0
      refine r_cV (ci := 4) (rest := []) (st2 := [.int t99]) C (s_X4_seekName e101) mk_X4_seekName rfl (ck_k e97) (by decide) im_X4_seekName sl_X4_seekName lk_X2_150 rfl rfl rfl dX2_readOne_51 (Nat.le_of_ble_eq_true rfl) ⟨(by simp only [rmO]; omega), (by simp only [rmO]; omega)⟩ ⟨Nat.le_of_ble_eq_true rfl, Nat.le_of_ble_eq_true rfl⟩ ?_
      refine r_istore (lv' := [(4, .int t99), (3, .int t79), (2, .int t77), (0, .ref v0), (1, .int v1)]) C dX2_readOne_54 (by decide) rfl rfl ?_
      refine r_iload C dX2_readOne_56 rfl ?_
      refine r_iconst (v := -1) C dX2_readOne_58 (by decide) ?_
      refine r_icmp_ne (tgt := 64) C dX2_readOne_59 (by decide) (fun c102 => ?_) (fun c102 => ?_)
      · rw [if_neg c102] at hf0
        refine r_aload_n C dX2_readOne_64 rfl ?_
        obtain ⟨t103, e104, hf0⟩ := ob hf0
        refine r_getR C fk_X2_36 rfl dX2_readOne_65 e104 ?_
        obtain ⟨u106, e105, hf0⟩ := ob hf0
        obtain ⟨h107, e108, hf0⟩ := ob hf0
        refine r_cV (ci := 4) (rest := []) (st2 := []) C (s_X4_advance e108) mk_X4_advance rfl (ck_k e105) (by decide) im_X4_advance sl_X4_advance lk_X2_91 rfl rfl rfl dX2_readOne_68 (Nat.le_of_ble_eq_true rfl) ⟨(by simp only [rmO]; omega), (by simp only [rmO]; omega)⟩ ⟨Nat.le_of_ble_eq_true rfl, Nat.le_of_ble_eq_true rfl⟩ ?_
        refine r_aload_n C dX2_readOne_71 rfl ?_
        obtain ⟨t109, e110, hf0⟩ := ob hf0
        refine r_getR C fk_X2_22 rfl dX2_readOne_72 e110 ?_
        refine r_iload C dX2_readOne_75 rfl ?_
        refine r_iconst (v := 4) C dX2_readOne_77 (by decide) ?_
        refine r_imul C dX2_readOne_78 ?_
        refine r_aload_n C dX2_readOne_79 rfl ?_
        obtain ⟨t111, e112, hf0⟩ := ob hf0
        refine r_getR C fk_X2_29 rfl dX2_readOne_80 e112 ?_
        refine r_iload_n C dX2_readOne_83 rfl ?_
        refine r_iconst (v := 4) C dX2_readOne_84 (by decide) ?_
        obtain ⟨h113, e114, hf0⟩ := ob hf0
        refine r_cpJ C lk_X2_206 dX2_readOne_85 ⟨Nat.le_of_ble_eq_true rfl, Nat.le_of_ble_eq_true rfl⟩ (by decide) e114 ?_
        refine r_iconst (v := 1) C dX2_readOne_88 (by decide) ?_
        obtain rfl := so hf0
        exact r_zret C dX2_readOne_89 (Or.inr rfl)
      · rw [if_pos c102] at hf0
        refine r_iconst (v := 0) C dX2_readOne_62 (by decide) ?_
        obtain rfl := so hf0
        exact r_zret C dX2_readOne_63 (Or.inl rfl)
def f_X2_readBoth_b79 (g_X2_readOne : aH → Nat → Int32 → Option (Int32 × aH)) (v0 : Nat) (v1 : Int32) (v2 : Int32) (v3 : Int32) (v4 : Int32) (v5 : Int32) (h : aH) : Option ((Int32 × aH) ⊕ (aH)) := if (4 : Int32) ≤ v5 then some (.inr h) else (gR h 2 v0 5).bind fun t14 => (lJ h t14 (v2 + v5)).bind fun t15 => (gR h 2 v0 5).bind fun t16 => (lJ h t16 (v3 + v5)).bind fun t17 => (sJ h t14 (v2 + v5) (t15 &&& t17)).bind fun h18 => (some (v5 + (1 : Int32))).bind fun t19 => some (.inl (t19, h18))
def f_X2_readBoth_l79 (g_X2_readOne : aH → Nat → Int32 → Option (Int32 × aH)) (v0 : Nat) (v1 : Int32) (v2 : Int32) (v3 : Int32) (v4 : Int32) (v5 : Int32) (h : aH) : Option (aH) := whileL wN (fun q : Int32 × aH => f_X2_readBoth_b79 g_X2_readOne v0 v1 v2 v3 v4 q.1 q.2) (v5, h)
def f_X2_readBoth_b39 (g_X2_readOne : aH → Nat → Int32 → Option (Int32 × aH)) (v0 : Nat) (v1 : Int32) (v2 : Int32) (v3 : Int32) (v4 : Int32) (h : aH) : Option ((Int32 × aH) ⊕ ((aH) ⊕ (aH))) := if (901 : Int32) ≤ v4 then some (.inr (.inr h)) else (gR h 2 v0 0).bind fun t8 => (gI h 4 t8 10).bind fun t9 => if t9 = (19 : Int32) then (gR h 2 v0 0).bind fun t10 => (ck h 4 t10).bind fun _ => (f_X4_advance h t10).bind fun h11 => (ck h11 2 v0).bind fun _ => bd2 (g_X2_readOne h11 v0 v1) fun t12 h13 => if t12 = 0 then some (.inr (.inl h13)) else (f_X2_readBoth_l79 g_X2_readOne v0 v1 v2 v3 v4 (0 : Int32) h13).bind fun h20 => (some (v4 + (1 : Int32))).bind fun t21 => some (.inl (t21, h20)) else some (.inr (.inr h))
def f_X2_readBoth_l39 (g_X2_readOne : aH → Nat → Int32 → Option (Int32 × aH)) (v0 : Nat) (v1 : Int32) (v2 : Int32) (v3 : Int32) (v4 : Int32) (h : aH) : Option ((aH) ⊕ (aH)) := whileL wN (fun q : Int32 × aH => f_X2_readBoth_b39 g_X2_readOne v0 v1 v2 v3 q.1 q.2) (v4, h)
def f_X2_readBoth_g (g_X2_readOne : aH → Nat → Int32 → Option (Int32 × aH)) (h : aH) (v0 : Nat) (v1 : Int32) : Option (Int32 × aH) := (some (((v1 * (3 : Int32)) + (1 : Int32)) * (4 : Int32))).bind fun t1 => (some (t1 + (4 : Int32))).bind fun t2 => (ck h 2 v0).bind fun _ => bd2 (g_X2_readOne h v0 v1) fun t3 h4 => if t3 = 0 then some ((0 : Int32), h4) else (gR h4 2 v0 5).bind fun t5 => (gR h4 2 v0 5).bind fun t6 => (cpJ h4 t5 t2 t6 t1 (4 : Int32)).bind fun h7 => (f_X2_readBoth_l39 g_X2_readOne v0 v1 t1 t2 (0 : Int32) h7).bind fun e => match e with | .inl h22 => some ((0 : Int32), h22) | .inr h23 => some ((1 : Int32), h23)
theorem s_X2_readBoth_g {g_X2_readOne : aH → Nat → Int32 → Option (Int32 × aH)} {d d0 : Nat} (hd : 0 ≤ d) (hd0 : d0 ≤ d) (H_X2_readOne : ∀ (h : aH) (v0 : Nat) (v1 : Int32) (out : Int32 × aH), g_X2_readOne h v0 v1 = some out → EV d0 yX2_readOne cX2_readOne 5 (some .boolean) h [.ref v0, .int v1] (some (.int out.1)) out.2 0 0) {h : aH} {v0 : Nat} {v1 : Int32} {out : Int32 × aH} (hf0 : f_X2_readBoth_g g_X2_readOne h v0 v1 = some out) : EV (d + 1) yX2_readBoth cX2_readBoth 6 (some .boolean) h [.ref v0, .int v1] (some (.int out.1)) out.2 0 0 := by
  refine EV.of (own := RX2) (lv0 := [(0, .ref v0), (1, .int v1)]) (by decide +kernel) rfl rfl (Nat.le_of_ble_eq_true rfl) ?_
  intro p l e s m args below meth c D cA B Hb C hin
  unfold f_X2_readBoth_g at hf0
  refine r_iload_n C dX2_readBoth_0 rfl ?_
  refine r_iconst (v := 3) C dX2_readBoth_1 (by decide) ?_
  refine r_imul C dX2_readBoth_2 ?_
  refine r_iconst (v := 1) C dX2_readBoth_3 (by decide) ?_
  refine r_iadd C dX2_readBoth_4 ?_
  refine r_iconst (v := 4) C dX2_readBoth_5 (by decide) ?_
  refine r_imul C dX2_readBoth_6 ?_
  obtain ⟨t1, e2, hf0⟩ := ob hf0
  refine r_istore_n (lv' := [(2, .int t1), (0, .ref v0), (1, .int v1)]) C dX2_readBoth_7 (by decide) e2 rfl ?_
  refine r_iload_n C dX2_readBoth_8 rfl ?_
  refine r_iconst (v := 4) C dX2_readBoth_9 (by decide) ?_
  refine r_iadd C dX2_readBoth_10 ?_
  obtain ⟨t3, e4, hf0⟩ := ob hf0
  refine r_istore_n (lv' := [(3, .int t3), (2, .int t1), (0, .ref v0), (1, .int v1)]) C dX2_readBoth_11 (by decide) e4 rfl ?_
  refine r_aload_n C dX2_readBoth_12 rfl ?_
  refine r_iload_n C dX2_readBoth_13 rfl ?_
  obtain ⟨u6, e5, hf0⟩ := ob hf0
  obtain ⟨t7, h8, e9, hf0⟩ := ob2 hf0
  refine r_cV (ci := 2) (rest := []) (st2 := [.int t7]) C (H_X2_readOne _ _ _ _ e9) mk_X2_readOne rfl (ck_k e5) (by decide) im_X2_readOne sl_X2_readOne lk_X2_212 rfl rfl rfl dX2_readBoth_14 (Nat.le_of_ble_eq_true rfl) ⟨(by simp only [rmO]; omega), (by simp only [rmO]; omega)⟩ ⟨Nat.le_of_ble_eq_true rfl, Nat.le_of_ble_eq_true rfl⟩ ?_
  refine r_ifne (tgt := 22) C dX2_readBoth_17 (by decide) (fun c10 => ?_) (fun c10 => ?_)
  · rw [if_neg c10] at hf0
    refine r_aload_n C dX2_readBoth_22 rfl ?_
    obtain ⟨t11, e12, hf0⟩ := ob hf0
    refine r_getR C fk_X2_29 rfl dX2_readBoth_23 e12 ?_
    refine r_iload_n C dX2_readBoth_26 rfl ?_
    refine r_aload_n C dX2_readBoth_27 rfl ?_
    obtain ⟨t13, e14, hf0⟩ := ob hf0
    refine r_getR C fk_X2_29 rfl dX2_readBoth_28 e14 ?_
    refine r_iload_n C dX2_readBoth_31 rfl ?_
    refine r_iconst (v := 4) C dX2_readBoth_32 (by decide) ?_
    obtain ⟨h15, e16, hf0⟩ := ob hf0
    refine r_cpJ C lk_X2_206 dX2_readBoth_33 ⟨Nat.le_of_ble_eq_true rfl, Nat.le_of_ble_eq_true rfl⟩ (by decide) e16 ?_
    refine r_iconst (v := 0) C dX2_readBoth_36 (by decide) ?_
    refine r_istore (lv' := [(4, .int (0 : Int32)), (3, .int t3), (2, .int t1), (0, .ref v0), (1, .int v1)]) C dX2_readBoth_37 (by decide) rfl rfl ?_
    obtain ⟨y17, hl39, hf0⟩ := ob hf0
    have L39 : ∀ (n : Nat) (t18 : Int32) (h19 : aH), whileL n (fun q : Int32 × aH => f_X2_readBoth_b39 g_X2_readOne v0 v1 t1 t3 q.1 q.2) (t18, h19) = some y17 → gW p l e (rmO (d + 1) 0 0) s m args below meth c (MQ below (eQ D cA B Hb out.2 (some (.int out.1))) args s 0 0 (fun q => B ≤ q)) D cA B Hb 6 h19 39 [(0, .ref v0), (1, .int v1), (2, .int t1), (3, .int t3), (4, .int t18)] [] 0 0 := by
      intro n
      induction n with
      | zero => intro t18 h19 hz; cases hz
      | succ n ih39 =>
        intro t18 h19 hz
        obtain ⟨x39, hf1, hk39⟩ := wl hz
        replace hf1 : f_X2_readBoth_b39 g_X2_readOne v0 v1 t1 t3 t18 h19 = some x39 := hf1
        unfold f_X2_readBoth_b39 at hf1
        refine r_iload C dX2_readBoth_39 rfl ?_
        refine r_sipush (v := 901) C dX2_readBoth_41 (by decide) ?_
        refine r_icmp_ge (tgt := 118) C dX2_readBoth_44 (by decide) (fun c20 => ?_) (fun c20 => ?_)
        · rw [if_pos c20] at hf1
          obtain rfl := so hf1
          obtain rfl := so (show some (.inr h19 : (aH) ⊕ (aH)) = some y17 from hk39)
          dsimp only at hf0
          refine r_iconst (v := 1) C dX2_readBoth_118 (by decide) ?_
          obtain rfl := so hf0
          exact r_zret C dX2_readBoth_119 (Or.inr rfl)
        · rw [if_neg c20] at hf1
          refine r_aload_n C dX2_readBoth_47 rfl ?_
          obtain ⟨t21, e22, hf1⟩ := ob hf1
          refine r_getR C fk_X2_36 rfl dX2_readBoth_48 e22 ?_
          obtain ⟨t23, e24, hf1⟩ := ob hf1
          refine r_getI C fk_X2_55 rfl dX2_readBoth_51 e24 ?_
          refine r_bipush (v := 19) C dX2_readBoth_54 (by decide) ?_
          refine r_icmp_ne (tgt := 118) C dX2_readBoth_56 (by decide) (fun c25 => ?_) (fun c25 => ?_)
          · rw [if_neg c25] at hf1
            obtain rfl := so hf1
            obtain rfl := so (show some (.inr h19 : (aH) ⊕ (aH)) = some y17 from hk39)
            dsimp only at hf0
            refine r_iconst (v := 1) C dX2_readBoth_118 (by decide) ?_
            obtain rfl := so hf0
            exact r_zret C dX2_readBoth_119 (Or.inr rfl)
          · rw [if_pos c25] at hf1
            refine r_aload_n C dX2_readBoth_59 rfl ?_
            obtain ⟨t26, e27, hf1⟩ := ob hf1
            refine r_getR C fk_X2_36 rfl dX2_readBoth_60 e27 ?_
            obtain ⟨u29, e28, hf1⟩ := ob hf1
            obtain ⟨h30, e31, hf1⟩ := ob hf1
            refine r_cV (ci := 4) (rest := []) (st2 := []) C (s_X4_advance e31) mk_X4_advance rfl (ck_k e28) (by decide) im_X4_advance sl_X4_advance lk_X2_91 rfl rfl rfl dX2_readBoth_63 (Nat.le_of_ble_eq_true rfl) ⟨(by simp only [rmO]; omega), (by simp only [rmO]; omega)⟩ ⟨Nat.le_of_ble_eq_true rfl, Nat.le_of_ble_eq_true rfl⟩ ?_
            refine r_aload_n C dX2_readBoth_66 rfl ?_
            refine r_iload_n C dX2_readBoth_67 rfl ?_
            obtain ⟨u33, e32, hf1⟩ := ob hf1
            obtain ⟨t34, h35, e36, hf1⟩ := ob2 hf1
            refine r_cV (ci := 2) (rest := []) (st2 := [.int t34]) C (H_X2_readOne _ _ _ _ e36) mk_X2_readOne rfl (ck_k e32) (by decide) im_X2_readOne sl_X2_readOne lk_X2_212 rfl rfl rfl dX2_readBoth_68 (Nat.le_of_ble_eq_true rfl) ⟨(by simp only [rmO]; omega), (by simp only [rmO]; omega)⟩ ⟨Nat.le_of_ble_eq_true rfl, Nat.le_of_ble_eq_true rfl⟩ ?_
            refine r_ifne (tgt := 76) C dX2_readBoth_71 (by decide) (fun c37 => ?_) (fun c37 => ?_)
            · rw [if_neg c37] at hf1
              refine r_iconst (v := 0) C dX2_readBoth_76 (by decide) ?_
              refine r_istore (lv' := [(5, .int (0 : Int32)), (0, .ref v0), (1, .int v1), (2, .int t1), (3, .int t3), (4, .int t18)]) C dX2_readBoth_77 (by decide) rfl rfl ?_
              obtain ⟨y38, hl79, hf1⟩ := ob hf1
              have L79 : ∀ (n : Nat) (t39 : Int32) (h40 : aH), whileL n (fun q : Int32 × aH => f_X2_readBoth_b79 g_X2_readOne v0 v1 t1 t3 t18 q.1 q.2) (t39, h40) = some y38 → gW p l e (rmO (d + 1) 0 0) s m args below meth c (MQ below (eQ D cA B Hb out.2 (some (.int out.1))) args s 0 0 (fun q => B ≤ q)) D cA B Hb 6 h40 79 [(0, .ref v0), (1, .int v1), (2, .int t1), (3, .int t3), (4, .int t18), (5, .int t39)] [] 0 0 := by
                intro n
                induction n with
                | zero => intro t39 h40 hz; cases hz
                | succ n ih79 =>
                  intro t39 h40 hz
                  obtain ⟨x79, hf2, hk79⟩ := wl hz
                  replace hf2 : f_X2_readBoth_b79 g_X2_readOne v0 v1 t1 t3 t18 t39 h40 = some x79 := hf2
                  unfold f_X2_readBoth_b79 at hf2
                  refine r_iload C dX2_readBoth_79 rfl ?_
                  refine r_iconst (v := 4) C dX2_readBoth_81 (by decide) ?_
                  refine r_icmp_ge (tgt := 112) C dX2_readBoth_82 (by decide) (fun c41 => ?_) (fun c41 => ?_)
                  · rw [if_pos c41] at hf2
                    obtain rfl := so hf2
                    obtain rfl := so (show some h40 = some y38 from hk79)
                    obtain ⟨t42, e43, hf1⟩ := ob hf1
                    refine r_iinc (lv' := [(4, .int t42), (0, .ref v0), (1, .int v1), (2, .int t1), (3, .int t3), (5, .int t39)]) C dX2_readBoth_112 rfl e43 (by decide) rfl ?_
                    refine r_goto (tgt := 39) C dX2_readBoth_115 (by decide) ?_
                    obtain rfl := so hf1
                    refine r_subk [1, 2, 3, 4, 0] (lv' := [(0, .ref v0), (1, .int v1), (2, .int t1), (3, .int t3), (4, .int t42)]) rfl ?_
                    exact ih39 t42 h40 hk39
                  · rw [if_neg c41] at hf2
                    refine r_aload_n C dX2_readBoth_85 rfl ?_
                    obtain ⟨t44, e45, hf2⟩ := ob hf2
                    refine r_getR C fk_X2_29 rfl dX2_readBoth_86 e45 ?_
                    refine r_iload_n C dX2_readBoth_89 rfl ?_
                    refine r_iload C dX2_readBoth_90 rfl ?_
                    refine r_iadd C dX2_readBoth_92 ?_
                    refine r_dup2 C dX2_readBoth_93 rfl rfl ?_
                    obtain ⟨t46, e47, hf2⟩ := ob hf2
                    refine r_ldJ C dX2_readBoth_94 e47 ?_
                    refine r_aload_n C dX2_readBoth_95 rfl ?_
                    obtain ⟨t48, e49, hf2⟩ := ob hf2
                    refine r_getR C fk_X2_29 rfl dX2_readBoth_96 e49 ?_
                    refine r_iload_n C dX2_readBoth_99 rfl ?_
                    refine r_iload C dX2_readBoth_100 rfl ?_
                    refine r_iadd C dX2_readBoth_102 ?_
                    obtain ⟨t50, e51, hf2⟩ := ob hf2
                    refine r_ldJ C dX2_readBoth_103 e51 ?_
                    refine r_land C dX2_readBoth_104 ?_
                    obtain ⟨h52, e53, hf2⟩ := ob hf2
                    refine r_stJ C dX2_readBoth_105 e53 ?_
                    obtain ⟨t54, e55, hf2⟩ := ob hf2
                    refine r_iinc (lv' := [(5, .int t54), (0, .ref v0), (1, .int v1), (2, .int t1), (3, .int t3), (4, .int t18)]) C dX2_readBoth_106 rfl e55 (by decide) rfl ?_
                    refine r_goto (tgt := 79) C dX2_readBoth_109 (by decide) ?_
                    obtain rfl := so hf2
                    refine r_subk [1, 2, 3, 4, 5, 0] (lv' := [(0, .ref v0), (1, .int v1), (2, .int t1), (3, .int t3), (4, .int t18), (5, .int t54)]) rfl ?_
                    exact ih79 t54 h52 hk79
              refine r_subk [1, 2, 3, 4, 5, 0] (lv' := [(0, .ref v0), (1, .int v1), (2, .int t1), (3, .int t3), (4, .int t18), (5, .int (0 : Int32))]) rfl ?_
              exact L79 wN (0 : Int32) h35 hl79
            · rw [if_pos c37] at hf1
              obtain rfl := so hf1
              obtain rfl := so (show some (.inl h35 : (aH) ⊕ (aH)) = some y17 from hk39)
              dsimp only at hf0
              refine r_iconst (v := 0) C dX2_readBoth_74 (by decide) ?_
              obtain rfl := so hf0
              exact r_zret C dX2_readBoth_75 (Or.inl rfl)
    refine r_subk [3, 4, 2, 1, 0] (lv' := [(0, .ref v0), (1, .int v1), (2, .int t1), (3, .int t3), (4, .int (0 : Int32))]) rfl ?_
    exact L39 wN (0 : Int32) h15 hl39
  · rw [if_pos c10] at hf0
    refine r_iconst (v := 0) C dX2_readBoth_20 (by decide) ?_
    obtain rfl := so hf0
    exact r_zret C dX2_readBoth_21 (Or.inl rfl)
def f_X2_readEither_b77 (g_X2_readBoth : aH → Nat → Int32 → Option (Int32 × aH)) (v0 : Nat) (v1 : Int32) (v2 : Int32) (v3 : Int32) (v4 : Int32) (v5 : Int32) (h : aH) : Option ((Int32 × aH) ⊕ (aH)) := if (4 : Int32) ≤ v5 then some (.inr h) else (gR h 2 v0 5).bind fun t14 => (lJ h t14 (v2 + v5)).bind fun t15 => (gR h 2 v0 5).bind fun t16 => (lJ h t16 (v3 + v5)).bind fun t17 => (sJ h t14 (v2 + v5) (t15 ||| t17)).bind fun h18 => (some (v5 + (1 : Int32))).bind fun t19 => some (.inl (t19, h18))
def f_X2_readEither_l77 (g_X2_readBoth : aH → Nat → Int32 → Option (Int32 × aH)) (v0 : Nat) (v1 : Int32) (v2 : Int32) (v3 : Int32) (v4 : Int32) (v5 : Int32) (h : aH) : Option (aH) := whileL wN (fun q : Int32 × aH => f_X2_readEither_b77 g_X2_readBoth v0 v1 v2 v3 v4 q.1 q.2) (v5, h)
def f_X2_readEither_b37 (g_X2_readBoth : aH → Nat → Int32 → Option (Int32 × aH)) (v0 : Nat) (v1 : Int32) (v2 : Int32) (v3 : Int32) (v4 : Int32) (h : aH) : Option ((Int32 × aH) ⊕ ((aH) ⊕ (aH))) := if (901 : Int32) ≤ v4 then some (.inr (.inr h)) else (gR h 2 v0 0).bind fun t8 => (gI h 4 t8 10).bind fun t9 => if t9 = (18 : Int32) then (gR h 2 v0 0).bind fun t10 => (ck h 4 t10).bind fun _ => (f_X4_advance h t10).bind fun h11 => (ck h11 2 v0).bind fun _ => bd2 (g_X2_readBoth h11 v0 v1) fun t12 h13 => if t12 = 0 then some (.inr (.inl h13)) else (f_X2_readEither_l77 g_X2_readBoth v0 v1 v2 v3 v4 (0 : Int32) h13).bind fun h20 => (some (v4 + (1 : Int32))).bind fun t21 => some (.inl (t21, h20)) else some (.inr (.inr h))
def f_X2_readEither_l37 (g_X2_readBoth : aH → Nat → Int32 → Option (Int32 × aH)) (v0 : Nat) (v1 : Int32) (v2 : Int32) (v3 : Int32) (v4 : Int32) (h : aH) : Option ((aH) ⊕ (aH)) := whileL wN (fun q : Int32 × aH => f_X2_readEither_b37 g_X2_readBoth v0 v1 v2 v3 q.1 q.2) (v4, h)
def f_X2_readEither_g (g_X2_readBoth : aH → Nat → Int32 → Option (Int32 × aH)) (h : aH) (v0 : Nat) (v1 : Int32) : Option (Int32 × aH) := (some ((v1 * (3 : Int32)) * (4 : Int32))).bind fun t1 => (some (t1 + (4 : Int32))).bind fun t2 => (ck h 2 v0).bind fun _ => bd2 (g_X2_readBoth h v0 v1) fun t3 h4 => if t3 = 0 then some ((0 : Int32), h4) else (gR h4 2 v0 5).bind fun t5 => (gR h4 2 v0 5).bind fun t6 => (cpJ h4 t5 t2 t6 t1 (4 : Int32)).bind fun h7 => (f_X2_readEither_l37 g_X2_readBoth v0 v1 t1 t2 (0 : Int32) h7).bind fun e => match e with | .inl h22 => some ((0 : Int32), h22) | .inr h23 => some ((1 : Int32), h23)
theorem s_X2_readEither_g {g_X2_readBoth : aH → Nat → Int32 → Option (Int32 × aH)} {d d0 : Nat} (hd : 0 ≤ d) (hd0 : d0 ≤ d) (H_X2_readBoth : ∀ (h : aH) (v0 : Nat) (v1 : Int32) (out : Int32 × aH), g_X2_readBoth h v0 v1 = some out → EV d0 yX2_readBoth cX2_readBoth 6 (some .boolean) h [.ref v0, .int v1] (some (.int out.1)) out.2 0 0) {h : aH} {v0 : Nat} {v1 : Int32} {out : Int32 × aH} (hf0 : f_X2_readEither_g g_X2_readBoth h v0 v1 = some out) : EV (d + 1) yX2_readEither cX2_readEither 6 (some .boolean) h [.ref v0, .int v1] (some (.int out.1)) out.2 0 0 := by
  refine EV.of (own := RX2) (lv0 := [(0, .ref v0), (1, .int v1)]) (by decide +kernel) rfl rfl (Nat.le_of_ble_eq_true rfl) ?_
  intro p l e s m args below meth c D cA B Hb C hin
  unfold f_X2_readEither_g at hf0
  refine r_iload_n C dX2_readEither_0 rfl ?_
  refine r_iconst (v := 3) C dX2_readEither_1 (by decide) ?_
  refine r_imul C dX2_readEither_2 ?_
  refine r_iconst (v := 4) C dX2_readEither_3 (by decide) ?_
  refine r_imul C dX2_readEither_4 ?_
  obtain ⟨t1, e2, hf0⟩ := ob hf0
  refine r_istore_n (lv' := [(2, .int t1), (0, .ref v0), (1, .int v1)]) C dX2_readEither_5 (by decide) e2 rfl ?_
  refine r_iload_n C dX2_readEither_6 rfl ?_
  refine r_iconst (v := 4) C dX2_readEither_7 (by decide) ?_
  refine r_iadd C dX2_readEither_8 ?_
  obtain ⟨t3, e4, hf0⟩ := ob hf0
  refine r_istore_n (lv' := [(3, .int t3), (2, .int t1), (0, .ref v0), (1, .int v1)]) C dX2_readEither_9 (by decide) e4 rfl ?_
  refine r_aload_n C dX2_readEither_10 rfl ?_
  refine r_iload_n C dX2_readEither_11 rfl ?_
  obtain ⟨u6, e5, hf0⟩ := ob hf0
  obtain ⟨t7, h8, e9, hf0⟩ := ob2 hf0
  refine r_cV (ci := 2) (rest := []) (st2 := [.int t7]) C (H_X2_readBoth _ _ _ _ e9) mk_X2_readBoth rfl (ck_k e5) (by decide) im_X2_readBoth sl_X2_readBoth lk_X2_203 rfl rfl rfl dX2_readEither_12 (Nat.le_of_ble_eq_true rfl) ⟨(by simp only [rmO]; omega), (by simp only [rmO]; omega)⟩ ⟨Nat.le_of_ble_eq_true rfl, Nat.le_of_ble_eq_true rfl⟩ ?_
  refine r_ifne (tgt := 20) C dX2_readEither_15 (by decide) (fun c10 => ?_) (fun c10 => ?_)
  · rw [if_neg c10] at hf0
    refine r_aload_n C dX2_readEither_20 rfl ?_
    obtain ⟨t11, e12, hf0⟩ := ob hf0
    refine r_getR C fk_X2_29 rfl dX2_readEither_21 e12 ?_
    refine r_iload_n C dX2_readEither_24 rfl ?_
    refine r_aload_n C dX2_readEither_25 rfl ?_
    obtain ⟨t13, e14, hf0⟩ := ob hf0
    refine r_getR C fk_X2_29 rfl dX2_readEither_26 e14 ?_
    refine r_iload_n C dX2_readEither_29 rfl ?_
    refine r_iconst (v := 4) C dX2_readEither_30 (by decide) ?_
    obtain ⟨h15, e16, hf0⟩ := ob hf0
    refine r_cpJ C lk_X2_206 dX2_readEither_31 ⟨Nat.le_of_ble_eq_true rfl, Nat.le_of_ble_eq_true rfl⟩ (by decide) e16 ?_
    refine r_iconst (v := 0) C dX2_readEither_34 (by decide) ?_
    refine r_istore (lv' := [(4, .int (0 : Int32)), (3, .int t3), (2, .int t1), (0, .ref v0), (1, .int v1)]) C dX2_readEither_35 (by decide) rfl rfl ?_
    obtain ⟨y17, hl37, hf0⟩ := ob hf0
    have L37 : ∀ (n : Nat) (t18 : Int32) (h19 : aH), whileL n (fun q : Int32 × aH => f_X2_readEither_b37 g_X2_readBoth v0 v1 t1 t3 q.1 q.2) (t18, h19) = some y17 → gW p l e (rmO (d + 1) 0 0) s m args below meth c (MQ below (eQ D cA B Hb out.2 (some (.int out.1))) args s 0 0 (fun q => B ≤ q)) D cA B Hb 6 h19 37 [(0, .ref v0), (1, .int v1), (2, .int t1), (3, .int t3), (4, .int t18)] [] 0 0 := by
      intro n
      induction n with
      | zero => intro t18 h19 hz; cases hz
      | succ n ih37 =>
        intro t18 h19 hz
        obtain ⟨x37, hf1, hk37⟩ := wl hz
        replace hf1 : f_X2_readEither_b37 g_X2_readBoth v0 v1 t1 t3 t18 h19 = some x37 := hf1
        unfold f_X2_readEither_b37 at hf1
        refine r_iload C dX2_readEither_37 rfl ?_
        refine r_sipush (v := 901) C dX2_readEither_39 (by decide) ?_
        refine r_icmp_ge (tgt := 116) C dX2_readEither_42 (by decide) (fun c20 => ?_) (fun c20 => ?_)
        · rw [if_pos c20] at hf1
          obtain rfl := so hf1
          obtain rfl := so (show some (.inr h19 : (aH) ⊕ (aH)) = some y17 from hk37)
          dsimp only at hf0
          refine r_iconst (v := 1) C dX2_readEither_116 (by decide) ?_
          obtain rfl := so hf0
          exact r_zret C dX2_readEither_117 (Or.inr rfl)
        · rw [if_neg c20] at hf1
          refine r_aload_n C dX2_readEither_45 rfl ?_
          obtain ⟨t21, e22, hf1⟩ := ob hf1
          refine r_getR C fk_X2_36 rfl dX2_readEither_46 e22 ?_
          obtain ⟨t23, e24, hf1⟩ := ob hf1
          refine r_getI C fk_X2_55 rfl dX2_readEither_49 e24 ?_
          refine r_bipush (v := 18) C dX2_readEither_52 (by decide) ?_
          refine r_icmp_ne (tgt := 116) C dX2_readEither_54 (by decide) (fun c25 => ?_) (fun c25 => ?_)
          · rw [if_neg c25] at hf1
            obtain rfl := so hf1
            obtain rfl := so (show some (.inr h19 : (aH) ⊕ (aH)) = some y17 from hk37)
            dsimp only at hf0
            refine r_iconst (v := 1) C dX2_readEither_116 (by decide) ?_
            obtain rfl := so hf0
            exact r_zret C dX2_readEither_117 (Or.inr rfl)
          · rw [if_pos c25] at hf1
            refine r_aload_n C dX2_readEither_57 rfl ?_
            obtain ⟨t26, e27, hf1⟩ := ob hf1
            refine r_getR C fk_X2_36 rfl dX2_readEither_58 e27 ?_
            obtain ⟨u29, e28, hf1⟩ := ob hf1
            obtain ⟨h30, e31, hf1⟩ := ob hf1
            refine r_cV (ci := 4) (rest := []) (st2 := []) C (s_X4_advance e31) mk_X4_advance rfl (ck_k e28) (by decide) im_X4_advance sl_X4_advance lk_X2_91 rfl rfl rfl dX2_readEither_61 (Nat.le_of_ble_eq_true rfl) ⟨(by simp only [rmO]; omega), (by simp only [rmO]; omega)⟩ ⟨Nat.le_of_ble_eq_true rfl, Nat.le_of_ble_eq_true rfl⟩ ?_
            refine r_aload_n C dX2_readEither_64 rfl ?_
            refine r_iload_n C dX2_readEither_65 rfl ?_
            obtain ⟨u33, e32, hf1⟩ := ob hf1
            obtain ⟨t34, h35, e36, hf1⟩ := ob2 hf1
            refine r_cV (ci := 2) (rest := []) (st2 := [.int t34]) C (H_X2_readBoth _ _ _ _ e36) mk_X2_readBoth rfl (ck_k e32) (by decide) im_X2_readBoth sl_X2_readBoth lk_X2_203 rfl rfl rfl dX2_readEither_66 (Nat.le_of_ble_eq_true rfl) ⟨(by simp only [rmO]; omega), (by simp only [rmO]; omega)⟩ ⟨Nat.le_of_ble_eq_true rfl, Nat.le_of_ble_eq_true rfl⟩ ?_
            refine r_ifne (tgt := 74) C dX2_readEither_69 (by decide) (fun c37 => ?_) (fun c37 => ?_)
            · rw [if_neg c37] at hf1
              refine r_iconst (v := 0) C dX2_readEither_74 (by decide) ?_
              refine r_istore (lv' := [(5, .int (0 : Int32)), (0, .ref v0), (1, .int v1), (2, .int t1), (3, .int t3), (4, .int t18)]) C dX2_readEither_75 (by decide) rfl rfl ?_
              obtain ⟨y38, hl77, hf1⟩ := ob hf1
              have L77 : ∀ (n : Nat) (t39 : Int32) (h40 : aH), whileL n (fun q : Int32 × aH => f_X2_readEither_b77 g_X2_readBoth v0 v1 t1 t3 t18 q.1 q.2) (t39, h40) = some y38 → gW p l e (rmO (d + 1) 0 0) s m args below meth c (MQ below (eQ D cA B Hb out.2 (some (.int out.1))) args s 0 0 (fun q => B ≤ q)) D cA B Hb 6 h40 77 [(0, .ref v0), (1, .int v1), (2, .int t1), (3, .int t3), (4, .int t18), (5, .int t39)] [] 0 0 := by
                intro n
                induction n with
                | zero => intro t39 h40 hz; cases hz
                | succ n ih77 =>
                  intro t39 h40 hz
                  obtain ⟨x77, hf2, hk77⟩ := wl hz
                  replace hf2 : f_X2_readEither_b77 g_X2_readBoth v0 v1 t1 t3 t18 t39 h40 = some x77 := hf2
                  unfold f_X2_readEither_b77 at hf2
                  refine r_iload C dX2_readEither_77 rfl ?_
                  refine r_iconst (v := 4) C dX2_readEither_79 (by decide) ?_
                  refine r_icmp_ge (tgt := 110) C dX2_readEither_80 (by decide) (fun c41 => ?_) (fun c41 => ?_)
                  · rw [if_pos c41] at hf2
                    obtain rfl := so hf2
                    obtain rfl := so (show some h40 = some y38 from hk77)
                    obtain ⟨t42, e43, hf1⟩ := ob hf1
                    refine r_iinc (lv' := [(4, .int t42), (0, .ref v0), (1, .int v1), (2, .int t1), (3, .int t3), (5, .int t39)]) C dX2_readEither_110 rfl e43 (by decide) rfl ?_
                    refine r_goto (tgt := 37) C dX2_readEither_113 (by decide) ?_
                    obtain rfl := so hf1
                    refine r_subk [1, 2, 3, 4, 0] (lv' := [(0, .ref v0), (1, .int v1), (2, .int t1), (3, .int t3), (4, .int t42)]) rfl ?_
                    exact ih37 t42 h40 hk37
                  · rw [if_neg c41] at hf2
                    refine r_aload_n C dX2_readEither_83 rfl ?_
                    obtain ⟨t44, e45, hf2⟩ := ob hf2
                    refine r_getR C fk_X2_29 rfl dX2_readEither_84 e45 ?_
                    refine r_iload_n C dX2_readEither_87 rfl ?_
                    refine r_iload C dX2_readEither_88 rfl ?_
                    refine r_iadd C dX2_readEither_90 ?_
                    refine r_dup2 C dX2_readEither_91 rfl rfl ?_
                    obtain ⟨t46, e47, hf2⟩ := ob hf2
                    refine r_ldJ C dX2_readEither_92 e47 ?_
                    refine r_aload_n C dX2_readEither_93 rfl ?_
                    obtain ⟨t48, e49, hf2⟩ := ob hf2
                    refine r_getR C fk_X2_29 rfl dX2_readEither_94 e49 ?_
                    refine r_iload_n C dX2_readEither_97 rfl ?_
                    refine r_iload C dX2_readEither_98 rfl ?_
                    refine r_iadd C dX2_readEither_100 ?_
                    obtain ⟨t50, e51, hf2⟩ := ob hf2
                    refine r_ldJ C dX2_readEither_101 e51 ?_
                    refine r_lor C dX2_readEither_102 ?_
                    obtain ⟨h52, e53, hf2⟩ := ob hf2
                    refine r_stJ C dX2_readEither_103 e53 ?_
                    obtain ⟨t54, e55, hf2⟩ := ob hf2
                    refine r_iinc (lv' := [(5, .int t54), (0, .ref v0), (1, .int v1), (2, .int t1), (3, .int t3), (4, .int t18)]) C dX2_readEither_104 rfl e55 (by decide) rfl ?_
                    refine r_goto (tgt := 77) C dX2_readEither_107 (by decide) ?_
                    obtain rfl := so hf2
                    refine r_subk [1, 2, 3, 4, 5, 0] (lv' := [(0, .ref v0), (1, .int v1), (2, .int t1), (3, .int t3), (4, .int t18), (5, .int t54)]) rfl ?_
                    exact ih77 t54 h52 hk77
              refine r_subk [1, 2, 3, 4, 5, 0] (lv' := [(0, .ref v0), (1, .int v1), (2, .int t1), (3, .int t3), (4, .int t18), (5, .int (0 : Int32))]) rfl ?_
              exact L77 wN (0 : Int32) h35 hl77
            · rw [if_pos c37] at hf1
              obtain rfl := so hf1
              obtain rfl := so (show some (.inl h35 : (aH) ⊕ (aH)) = some y17 from hk37)
              dsimp only at hf0
              refine r_iconst (v := 0) C dX2_readEither_72 (by decide) ?_
              obtain rfl := so hf0
              exact r_zret C dX2_readEither_73 (Or.inl rfl)
    refine r_subk [3, 4, 2, 1, 0] (lv' := [(0, .ref v0), (1, .int v1), (2, .int t1), (3, .int t3), (4, .int (0 : Int32))]) rfl ?_
    exact L37 wN (0 : Int32) h15 hl37
  · rw [if_pos c10] at hf0
    refine r_iconst (v := 0) C dX2_readEither_18 (by decide) ?_
    obtain rfl := so hf0
    exact r_zret C dX2_readEither_19 (Or.inl rfl)
def f_X2_rOne : Nat → aH → Nat → Int32 → Option (Int32 × aH)
  | 0 => fun _ _ _ => none
  | n + 1 => f_X2_readOne_g (f_X2_rOne n) (f_X2_readEither_g (f_X2_readBoth_g (f_X2_rOne n)))
theorem s_X2_rOne : ∀ (n : Nat) (h : aH) (v0 : Nat) (v1 : Int32) (out : Int32 × aH), f_X2_rOne n h v0 v1 = some out → EV (1 + 3 * n) yX2_readOne cX2_readOne 5 (some .boolean) h [.ref v0, .int v1] (some (.int out.1)) out.2 0 0
  | 0, _, _, _, _, hf => by cases hf
  | n + 1, h, v0, v1, out, hf => s_X2_readOne_g (d := 1 + 3 * n + 2) (d0 := 1 + 3 * n) (d1 := 1 + 3 * n + 2) (by omega) (by omega) (s_X2_rOne n) (by omega) (fun _ _ _ _ hq => s_X2_readEither_g (d := 1 + 3 * n + 1) (d0 := 1 + 3 * n + 1) (by omega) (by omega) (fun _ _ _ _ hq => s_X2_readBoth_g (d := 1 + 3 * n) (d0 := 1 + 3 * n) (by omega) (by omega) (s_X2_rOne n) hq) hq) hf
def f_X2_readBoth (h : aH) (v0 : Nat) (v1 : Int32) : Option (Int32 × aH) := f_X2_readBoth_g (f_X2_rOne 8) h v0 v1
def f_X2_readEither (h : aH) (v0 : Nat) (v1 : Int32) : Option (Int32 × aH) := f_X2_readEither_g f_X2_readBoth h v0 v1
theorem s_X2_readEither {h : aH} {v0 : Nat} {v1 : Int32} {out : Int32 × aH} (hf : f_X2_readEither h v0 v1 = some out) : EV 27 yX2_readEither cX2_readEither 6 (some .boolean) h [.ref v0, .int v1] (some (.int out.1)) out.2 0 0 :=
  s_X2_readEither_g (d := 26) (d0 := 26) (by omega) (by omega) (fun _ _ _ _ hq => s_X2_readBoth_g (d := 25) (d0 := 25) (by omega) (by omega) (s_X2_rOne 8) hq) hf
def f_X2_readQuestion_j168 (h : aH) (v0 : Nat) (v1 : Int32) (v3 : Int32) : Option ((Int32 × aH) ⊕ (aH)) := (some (v3 + (1 : Int32))).bind fun t25 => some (.inl (t25, h))
def f_X2_readQuestion_b121 (v0 : Nat) (v1 : Int32) (v3 : Int32) (h : aH) : Option ((Int32 × aH) ⊕ (aH)) := (gR h 2 v0 6).bind fun t26 => (gI h 1 t26 14).bind fun t27 => if t27 ≤ v3 then some (.inr h) else (gR h 2 v0 5).bind fun t28 => (lJ h t28 (v3 >>> ((6 : Int32) &&& 31))).bind fun t29 => if (lg_cmp ((t29 >>> (Int32.toInt64 (v3 &&& (63 : Int32)) &&& 63)) &&& (1 : Int64)) (0 : Int64)) = 0 then f_X2_readQuestion_j168 h v0 v1 v3 else (gR h 2 v0 6).bind fun t30 => (gR h 1 t30 6).bind fun t31 => (lI h t31 v3).bind fun t32 => (sI h t31 v3 (t32 ||| ((1 : Int32) <<< (v1 &&& 31)))).bind fun h33 => f_X2_readQuestion_j168 h33 v0 v1 v3
def f_X2_readQuestion_l121 (v0 : Nat) (v1 : Int32) (v3 : Int32) (h : aH) : Option (aH) := whileL wN (fun q : Int32 × aH => f_X2_readQuestion_b121 v0 v1 q.1 q.2) (v3, h)
def f_X2_readQuestion (h : aH) (v0 : Nat) : Option (Int32 × aH) := (gR h 2 v0 6).bind fun t1 => (gI h 1 t1 16).bind fun t2 => if t2 < (12 : Int32) then (gR h 2 v0 0).bind fun t3 => (ck h 4 t3).bind fun _ => (f_X4_advance h t3).bind fun h4 => (ck h4 2 v0).bind fun _ => bd2 (f_X2_takeNewName h4 v0 (2 : Int32) t2) fun t5 h6 => if t5 = 0 then some ((0 : Int32), h6) else (gR h6 2 v0 0).bind fun t7 => (ck h6 4 t7).bind fun _ => bd2 (f_X4_take h6 t7 (12 : Int32)) fun t8 h9 => if t8 = 0 then some ((0 : Int32), h9) else (gR h9 2 v0 0).bind fun t10 => (ck h9 4 t10).bind fun _ => bd2 (f_X4_takeNumber h9 t10 (0 : Int32) (99 : Int32)) fun t11 h12 => if t11 = (-1 : Int32) then some ((0 : Int32), h12) else (gR h12 2 v0 0).bind fun t13 => (ck h12 4 t13).bind fun _ => bd2 (f_X4_take h12 t13 (13 : Int32)) fun t14 h15 => if t14 = 0 then some ((0 : Int32), h15) else (ck h15 2 v0).bind fun _ => (f_X2_makeWorldsOnce h15 v0).bind fun h16 => (ck h16 2 v0).bind fun _ => bd2 (f_X2_readEither h16 v0 (0 : Int32)) fun t17 h18 => if t17 = 0 then some ((0 : Int32), h18) else (gR h18 2 v0 0).bind fun t19 => (ck h18 4 t19).bind fun _ => bd2 (f_X4_take h18 t19 (3 : Int32)) fun t20 h21 => if t20 = 0 then some ((0 : Int32), h21) else (gR h21 2 v0 6).bind fun t22 => (gR h21 1 t22 7).bind fun t23 => (sI h21 t23 t2 t11).bind fun h24 => (f_X2_readQuestion_l121 v0 t2 (0 : Int32) h24).bind fun h34 => (gR h34 2 v0 6).bind fun t35 => (gI h34 1 t35 16).bind fun t36 => (pI h34 1 t35 16 (t36 + (1 : Int32))).bind fun h37 => some ((1 : Int32), h37) else (gR h 2 v0 0).bind fun t38 => (ck h 4 t38).bind fun _ => bd2 (f_X4_refuseHere h t38 (6 : Int32)) fun t39 h40 => (rZ t39).bind fun t41 => some (t41, h40)
theorem s_X2_readQuestion {h : aH} {v0 : Nat} {out : Int32 × aH} (hf0 : f_X2_readQuestion h v0 = some out) : EV 28 yX2_readQuestion cX2_readQuestion 4 (some .boolean) h [.ref v0] (some (.int out.1)) out.2 0 0 := by
  refine EV.of (own := RX2) (lv0 := [(0, .ref v0)]) (by decide +kernel) rfl rfl (Nat.le_of_ble_eq_true rfl) ?_
  intro p l e s m args below meth c D cA B Hb C hin
  unfold f_X2_readQuestion at hf0
  refine r_aload_n C dX2_readQuestion_0 rfl ?_
  obtain ⟨t1, e2, hf0⟩ := ob hf0
  refine r_getR C fk_X2_40 rfl dX2_readQuestion_1 e2 ?_
  obtain ⟨t3, e4, hf0⟩ := ob hf0
  refine r_getI C fk_X2_88 rfl dX2_readQuestion_4 e4 ?_
  refine r_istore_n (lv' := [(1, .int t3), (0, .ref v0)]) C dX2_readQuestion_7 (by decide) rfl rfl ?_
  refine r_iload_n C dX2_readQuestion_8 rfl ?_
  refine r_bipush (v := 12) C dX2_readQuestion_9 (by decide) ?_
  refine r_icmp_lt (tgt := 24) C dX2_readQuestion_11 (by decide) (fun c5 => ?_) (fun c5 => ?_)
  · rw [if_pos c5] at hf0
    refine r_aload_n C dX2_readQuestion_24 rfl ?_
    obtain ⟨t6, e7, hf0⟩ := ob hf0
    refine r_getR C fk_X2_36 rfl dX2_readQuestion_25 e7 ?_
    obtain ⟨u9, e8, hf0⟩ := ob hf0
    obtain ⟨h10, e11, hf0⟩ := ob hf0
    refine r_cV (ci := 4) (rest := []) (st2 := []) C (s_X4_advance e11) mk_X4_advance rfl (ck_k e8) (by decide) im_X4_advance sl_X4_advance lk_X2_91 rfl rfl rfl dX2_readQuestion_28 (Nat.le_of_ble_eq_true rfl) ⟨Nat.le_of_ble_eq_true rfl, Nat.le_of_ble_eq_true rfl⟩ ⟨Nat.le_of_ble_eq_true rfl, Nat.le_of_ble_eq_true rfl⟩ ?_
    refine r_aload_n C dX2_readQuestion_31 rfl ?_
    refine r_iconst (v := 2) C dX2_readQuestion_32 (by decide) ?_
    refine r_iload_n C dX2_readQuestion_33 rfl ?_
    obtain ⟨u13, e12, hf0⟩ := ob hf0
    obtain ⟨t14, h15, e16, hf0⟩ := ob2 hf0
    refine r_cV (ci := 2) (rest := []) (st2 := [.int t14]) C (s_X2_takeNewName e16) mk_X2_takeNewName rfl (ck_k e12) (by decide) im_X2_takeNewName sl_X2_takeNewName lk_X2_94 rfl rfl rfl dX2_readQuestion_34 (Nat.le_of_ble_eq_true rfl) ⟨Nat.le_of_ble_eq_true rfl, Nat.le_of_ble_eq_true rfl⟩ ⟨Nat.le_of_ble_eq_true rfl, Nat.le_of_ble_eq_true rfl⟩ ?_
    refine r_ifeq (tgt := 52) C dX2_readQuestion_37 (by decide) (fun c17 => ?_) (fun c17 => ?_)
    · rw [if_pos c17] at hf0
      refine r_iconst (v := 0) C dX2_readQuestion_52 (by decide) ?_
      obtain rfl := so hf0
      exact r_zret C dX2_readQuestion_53 (Or.inl rfl)
    · rw [if_neg c17] at hf0
      refine r_aload_n C dX2_readQuestion_40 rfl ?_
      obtain ⟨t18, e19, hf0⟩ := ob hf0
      refine r_getR C fk_X2_36 rfl dX2_readQuestion_41 e19 ?_
      refine r_bipush (v := 12) C dX2_readQuestion_44 (by decide) ?_
      obtain ⟨u21, e20, hf0⟩ := ob hf0
      obtain ⟨t22, h23, e24, hf0⟩ := ob2 hf0
      refine r_cV (ci := 4) (rest := []) (st2 := [.int t22]) C (s_X4_take e24) mk_X4_take rfl (ck_k e20) (by decide) im_X4_take sl_X4_take lk_X2_98 rfl rfl rfl dX2_readQuestion_46 (Nat.le_of_ble_eq_true rfl) ⟨Nat.le_of_ble_eq_true rfl, Nat.le_of_ble_eq_true rfl⟩ ⟨Nat.le_of_ble_eq_true rfl, Nat.le_of_ble_eq_true rfl⟩ ?_
      refine r_ifne (tgt := 54) C dX2_readQuestion_49 (by decide) (fun c25 => ?_) (fun c25 => ?_)
      · rw [if_neg c25] at hf0
        refine r_aload_n C dX2_readQuestion_54 rfl ?_
        obtain ⟨t26, e27, hf0⟩ := ob hf0
        refine r_getR C fk_X2_36 rfl dX2_readQuestion_55 e27 ?_
        refine r_iconst (v := 0) C dX2_readQuestion_58 (by decide) ?_
        refine r_bipush (v := 99) C dX2_readQuestion_59 (by decide) ?_
        obtain ⟨u29, e28, hf0⟩ := ob hf0
        obtain ⟨t30, h31, e32, hf0⟩ := ob2 hf0
        refine r_cV (ci := 4) (rest := []) (st2 := [.int t30]) C (s_X4_takeNumber e32) mk_X4_takeNumber rfl (ck_k e28) (by decide) im_X4_takeNumber sl_X4_takeNumber lk_X2_136 rfl rfl rfl dX2_readQuestion_61 (Nat.le_of_ble_eq_true rfl) ⟨Nat.le_of_ble_eq_true rfl, Nat.le_of_ble_eq_true rfl⟩ ⟨Nat.le_of_ble_eq_true rfl, Nat.le_of_ble_eq_true rfl⟩ ?_
        refine r_istore_n (lv' := [(2, .int t30), (1, .int t3), (0, .ref v0)]) C dX2_readQuestion_64 (by decide) rfl rfl ?_
        refine r_iload_n C dX2_readQuestion_65 rfl ?_
        refine r_iconst (v := -1) C dX2_readQuestion_66 (by decide) ?_
        refine r_icmp_eq (tgt := 82) C dX2_readQuestion_67 (by decide) (fun c33 => ?_) (fun c33 => ?_)
        · rw [if_pos c33] at hf0
          refine r_iconst (v := 0) C dX2_readQuestion_82 (by decide) ?_
          obtain rfl := so hf0
          exact r_zret C dX2_readQuestion_83 (Or.inl rfl)
        · rw [if_neg c33] at hf0
          refine r_aload_n C dX2_readQuestion_70 rfl ?_
          obtain ⟨t34, e35, hf0⟩ := ob hf0
          refine r_getR C fk_X2_36 rfl dX2_readQuestion_71 e35 ?_
          refine r_bipush (v := 13) C dX2_readQuestion_74 (by decide) ?_
          obtain ⟨u37, e36, hf0⟩ := ob hf0
          obtain ⟨t38, h39, e40, hf0⟩ := ob2 hf0
          refine r_cV (ci := 4) (rest := []) (st2 := [.int t38]) C (s_X4_take e40) mk_X4_take rfl (ck_k e36) (by decide) im_X4_take sl_X4_take lk_X2_98 rfl rfl rfl dX2_readQuestion_76 (Nat.le_of_ble_eq_true rfl) ⟨Nat.le_of_ble_eq_true rfl, Nat.le_of_ble_eq_true rfl⟩ ⟨Nat.le_of_ble_eq_true rfl, Nat.le_of_ble_eq_true rfl⟩ ?_
          refine r_ifne (tgt := 84) C dX2_readQuestion_79 (by decide) (fun c41 => ?_) (fun c41 => ?_)
          · rw [if_neg c41] at hf0
            refine r_aload_n C dX2_readQuestion_84 rfl ?_
            obtain ⟨u43, e42, hf0⟩ := ob hf0
            obtain ⟨h44, e45, hf0⟩ := ob hf0
            refine r_cV (ci := 2) (rest := []) (st2 := []) C (s_X2_makeWorldsOnce e45) mk_X2_makeWorldsOnce rfl (ck_k e42) (by decide) im_X2_makeWorldsOnce sl_X2_makeWorldsOnce lk_X2_78 rfl rfl rfl dX2_readQuestion_85 (Nat.le_of_ble_eq_true rfl) ⟨Nat.le_of_ble_eq_true rfl, Nat.le_of_ble_eq_true rfl⟩ ⟨Nat.le_of_ble_eq_true rfl, Nat.le_of_ble_eq_true rfl⟩ ?_
            refine r_aload_n C dX2_readQuestion_88 rfl ?_
            refine r_iconst (v := 0) C dX2_readQuestion_89 (by decide) ?_
            obtain ⟨u47, e46, hf0⟩ := ob hf0
            obtain ⟨t48, h49, e50, hf0⟩ := ob2 hf0
            refine r_cV (ci := 2) (rest := []) (st2 := [.int t48]) C (s_X2_readEither e50) mk_X2_readEither rfl (ck_k e46) (by decide) im_X2_readEither sl_X2_readEither lk_X2_153 rfl rfl rfl dX2_readQuestion_90 (Nat.le_of_ble_eq_true rfl) ⟨Nat.le_of_ble_eq_true rfl, Nat.le_of_ble_eq_true rfl⟩ ⟨Nat.le_of_ble_eq_true rfl, Nat.le_of_ble_eq_true rfl⟩ ?_
            refine r_ifeq (tgt := 107) C dX2_readQuestion_93 (by decide) (fun c51 => ?_) (fun c51 => ?_)
            · rw [if_pos c51] at hf0
              refine r_iconst (v := 0) C dX2_readQuestion_107 (by decide) ?_
              obtain rfl := so hf0
              exact r_zret C dX2_readQuestion_108 (Or.inl rfl)
            · rw [if_neg c51] at hf0
              refine r_aload_n C dX2_readQuestion_96 rfl ?_
              obtain ⟨t52, e53, hf0⟩ := ob hf0
              refine r_getR C fk_X2_36 rfl dX2_readQuestion_97 e53 ?_
              refine r_iconst (v := 3) C dX2_readQuestion_100 (by decide) ?_
              obtain ⟨u55, e54, hf0⟩ := ob hf0
              obtain ⟨t56, h57, e58, hf0⟩ := ob2 hf0
              refine r_cV (ci := 4) (rest := []) (st2 := [.int t56]) C (s_X4_take e58) mk_X4_take rfl (ck_k e54) (by decide) im_X4_take sl_X4_take lk_X2_98 rfl rfl rfl dX2_readQuestion_101 (Nat.le_of_ble_eq_true rfl) ⟨Nat.le_of_ble_eq_true rfl, Nat.le_of_ble_eq_true rfl⟩ ⟨Nat.le_of_ble_eq_true rfl, Nat.le_of_ble_eq_true rfl⟩ ?_
              refine r_ifne (tgt := 109) C dX2_readQuestion_104 (by decide) (fun c59 => ?_) (fun c59 => ?_)
              · rw [if_neg c59] at hf0
                refine r_aload_n C dX2_readQuestion_109 rfl ?_
                obtain ⟨t60, e61, hf0⟩ := ob hf0
                refine r_getR C fk_X2_40 rfl dX2_readQuestion_110 e61 ?_
                obtain ⟨t62, e63, hf0⟩ := ob hf0
                refine r_getR C fk_X2_156 rfl dX2_readQuestion_113 e63 ?_
                refine r_iload_n C dX2_readQuestion_116 rfl ?_
                refine r_iload_n C dX2_readQuestion_117 rfl ?_
                obtain ⟨h64, e65, hf0⟩ := ob hf0
                refine r_stI C dX2_readQuestion_118 e65 ?_
                refine r_iconst (v := 0) C dX2_readQuestion_119 (by decide) ?_
                refine r_istore_n (lv' := [(3, .int (0 : Int32)), (2, .int t30), (1, .int t3), (0, .ref v0)]) C dX2_readQuestion_120 (by decide) rfl rfl ?_
                obtain ⟨y66, hl121, hf0⟩ := ob hf0
                have L121 : ∀ (n : Nat) (t67 : Int32) (h68 : aH), whileL n (fun q : Int32 × aH => f_X2_readQuestion_b121 v0 t3 q.1 q.2) (t67, h68) = some y66 → gW p l e (rmO 28 0 0) s m args below meth c (MQ below (eQ D cA B Hb out.2 (some (.int out.1))) args s 0 0 (fun q => B ≤ q)) D cA B Hb 4 h68 121 [(0, .ref v0), (1, .int t3), (3, .int t67)] [] 0 0 := by
                  intro n
                  induction n with
                  | zero => intro t67 h68 hz; cases hz
                  | succ n ih121 =>
                    intro t67 h68 hz
                    obtain ⟨x121, hf1, hk121⟩ := wl hz
                    replace hf1 : f_X2_readQuestion_b121 v0 t3 t67 h68 = some x121 := hf1
                    unfold f_X2_readQuestion_b121 at hf1
                    have J168 : ∀ (h69 : aH) (t70 : Int32), f_X2_readQuestion_j168 h69 v0 t3 t70 = some x121 → gW p l e (rmO 28 0 0) s m args below meth c (MQ below (eQ D cA B Hb out.2 (some (.int out.1))) args s 0 0 (fun q => B ≤ q)) D cA B Hb 4 h69 168 [(0, .ref v0), (1, .int t3), (3, .int t70)] [] 0 0 := by
                      intro h69 t70 hf1
                      unfold f_X2_readQuestion_j168 at hf1
                      obtain ⟨t71, e72, hf1⟩ := ob hf1
                      refine r_iinc (lv' := [(3, .int t71), (0, .ref v0), (1, .int t3)]) C dX2_readQuestion_168 rfl e72 (by decide) rfl ?_
                      refine r_goto (tgt := 121) C dX2_readQuestion_171 (by decide) ?_
                      obtain rfl := so hf1
                      refine r_subk [1, 2, 0] (lv' := [(0, .ref v0), (1, .int t3), (3, .int t71)]) rfl ?_
                      exact ih121 t71 h69 hk121
                    refine r_iload_n C dX2_readQuestion_121 rfl ?_
                    refine r_aload_n C dX2_readQuestion_122 rfl ?_
                    obtain ⟨t73, e74, hf1⟩ := ob hf1
                    refine r_getR C fk_X2_40 rfl dX2_readQuestion_123 e74 ?_
                    obtain ⟨t75, e76, hf1⟩ := ob hf1
                    refine r_getI C fk_X2_143 rfl dX2_readQuestion_126 e76 ?_
                    refine r_icmp_ge (tgt := 174) C dX2_readQuestion_129 (by decide) (fun c77 => ?_) (fun c77 => ?_)
                    · rw [if_pos c77] at hf1
                      obtain rfl := so hf1
                      obtain rfl := so (show some h68 = some y66 from hk121)
                      refine r_aload_n C dX2_readQuestion_174 rfl ?_
                      obtain ⟨t78, e79, hf0⟩ := ob hf0
                      refine r_getR C fk_X2_40 rfl dX2_readQuestion_175 e79 ?_
                      refine r_dup C dX2_readQuestion_178 rfl ?_
                      obtain ⟨t80, e81, hf0⟩ := ob hf0
                      refine r_getI C fk_X2_88 rfl dX2_readQuestion_179 e81 ?_
                      refine r_iconst (v := 1) C dX2_readQuestion_182 (by decide) ?_
                      refine r_iadd C dX2_readQuestion_183 ?_
                      obtain ⟨h82, e83, hf0⟩ := ob hf0
                      refine r_putI C fk_X2_88 dX2_readQuestion_184 e83 ?_
                      refine r_iconst (v := 1) C dX2_readQuestion_187 (by decide) ?_
                      obtain rfl := so hf0
                      exact r_zret C dX2_readQuestion_188 (Or.inr rfl)
                    · rw [if_neg c77] at hf1
                      refine r_aload_n C dX2_readQuestion_132 rfl ?_
                      obtain ⟨t84, e85, hf1⟩ := ob hf1
                      refine r_getR C fk_X2_29 rfl dX2_readQuestion_133 e85 ?_
                      refine r_iload_n C dX2_readQuestion_136 rfl ?_
                      refine r_bipush (v := 6) C dX2_readQuestion_137 (by decide) ?_
                      refine r_ishr C dX2_readQuestion_139 ?_
                      obtain ⟨t86, e87, hf1⟩ := ob hf1
                      refine r_ldJ C dX2_readQuestion_140 e87 ?_
                      refine r_iload_n C dX2_readQuestion_141 rfl ?_
                      refine r_bipush (v := 63) C dX2_readQuestion_142 (by decide) ?_
                      refine r_iand C dX2_readQuestion_144 ?_
                      refine r_lshr C dX2_readQuestion_145 ?_
                      refine r_lconst (v := 1) C dX2_readQuestion_146 (by decide) ?_
                      refine r_land C dX2_readQuestion_147 ?_
                      refine r_lconst (v := 0) C dX2_readQuestion_148 (by decide) ?_
                      refine r_lcmp C dX2_readQuestion_149 ?_
                      refine r_ifeq (tgt := 168) C dX2_readQuestion_150 (by decide) (fun c88 => ?_) (fun c88 => ?_)
                      · rw [if_pos c88] at hf1
                        exact J168 h68 t67 hf1
                      · rw [if_neg c88] at hf1
                        refine r_aload_n C dX2_readQuestion_153 rfl ?_
                        obtain ⟨t89, e90, hf1⟩ := ob hf1
                        refine r_getR C fk_X2_40 rfl dX2_readQuestion_154 e90 ?_
                        obtain ⟨t91, e92, hf1⟩ := ob hf1
                        refine r_getR C fk_X2_159 rfl dX2_readQuestion_157 e92 ?_
                        refine r_iload_n C dX2_readQuestion_160 rfl ?_
                        refine r_dup2 C dX2_readQuestion_161 rfl rfl ?_
                        obtain ⟨t93, e94, hf1⟩ := ob hf1
                        refine r_ldI C dX2_readQuestion_162 e94 ?_
                        refine r_iconst (v := 1) C dX2_readQuestion_163 (by decide) ?_
                        refine r_iload_n C dX2_readQuestion_164 rfl ?_
                        refine r_ishl C dX2_readQuestion_165 ?_
                        refine r_ior C dX2_readQuestion_166 ?_
                        obtain ⟨h95, e96, hf1⟩ := ob hf1
                        refine r_stI C dX2_readQuestion_167 e96 ?_
                        exact J168 h95 t67 hf1
                refine r_subk [3, 2, 0] (lv' := [(0, .ref v0), (1, .int t3), (3, .int (0 : Int32))]) rfl ?_
                exact L121 wN (0 : Int32) h64 hl121
              · rw [if_pos c59] at hf0
                refine r_iconst (v := 0) C dX2_readQuestion_107 (by decide) ?_
                obtain rfl := so hf0
                exact r_zret C dX2_readQuestion_108 (Or.inl rfl)
          · rw [if_pos c41] at hf0
            refine r_iconst (v := 0) C dX2_readQuestion_82 (by decide) ?_
            obtain rfl := so hf0
            exact r_zret C dX2_readQuestion_83 (Or.inl rfl)
      · rw [if_pos c25] at hf0
        refine r_iconst (v := 0) C dX2_readQuestion_52 (by decide) ?_
        obtain rfl := so hf0
        exact r_zret C dX2_readQuestion_53 (Or.inl rfl)
  · rw [if_neg c5] at hf0
    refine r_aload_n C dX2_readQuestion_14 rfl ?_
    obtain ⟨t97, e98, hf0⟩ := ob hf0
    refine r_getR C fk_X2_36 rfl dX2_readQuestion_15 e98 ?_
    refine r_bipush (v := 6) C dX2_readQuestion_18 (by decide) ?_
    obtain ⟨u100, e99, hf0⟩ := ob hf0
    obtain ⟨t101, h102, e103, hf0⟩ := ob2 hf0
    refine r_cV (ci := 4) (rest := []) (st2 := [.int t101]) C (s_X4_refuseHere e103) mk_X4_refuseHere rfl (ck_k e99) (by decide) im_X4_refuseHere sl_X4_refuseHere lk_X2_74 rfl rfl rfl dX2_readQuestion_20 (Nat.le_of_ble_eq_true rfl) ⟨Nat.le_of_ble_eq_true rfl, Nat.le_of_ble_eq_true rfl⟩ ⟨Nat.le_of_ble_eq_true rfl, Nat.le_of_ble_eq_true rfl⟩ ?_
    obtain ⟨t104, e105, hf0⟩ := ob hf0
    obtain ⟨rfl, e105z⟩ := rZ_k e105
    obtain rfl := so hf0
    exact r_zret C dX2_readQuestion_23 e105z
