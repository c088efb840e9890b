def f_J7_fill_53178_b5 (v0 : Nat) (v1 : Int32) (v3 : Int32) (v2 : Int32) (h : aH) : Option ((Int32 × aH) ⊕ (aH)) := if v3 ≤ v2 then some (.inr h) else (sI h v0 v2 v1).bind fun h2 => (some (v2 + (1 : Int32))).bind fun t3 => some (.inl (t3, h2))
def f_J7_fill_53178_l5 (v0 : Nat) (v1 : Int32) (v3 : Int32) (v2 : Int32) (h : aH) : Option (aH) := whileL wN (fun q : Int32 × aH => f_J7_fill_53178_b5 v0 v1 v3 q.1 q.2) (v2, h)
def f_J7_fill_53178 (h : aH) (v0 : Nat) (v1 : Int32) : Option (aH) := (aN h v0).bind fun t1 => (f_J7_fill_53178_l5 v0 v1 t1 (0 : Int32) h).bind fun h4 => some h4
theorem s_J7_fill_53178 {h : aH} {v0 : Nat} {v1 : Int32} {out : aH} (hf0 : f_J7_fill_53178 h v0 v1 = some out) : EV 0 yJ7_fill_53178 cJ7_fill_53178 4 none h [.ref v0, .int v1] none out 0 0 := by
  refine EV.of (own := RJ7) (lv0 := [(0, .ref v0), (1, .int v1)]) (by decide +kernel) rfl rfl (Nat.le_of_ble_eq_true rfl) ?_
  intro p l e s m args below meth c D cA B Hb C hin
  unfold f_J7_fill_53178 at hf0
  refine r_iconst (v := 0) C dJ7_fill_53178_0 (by decide) ?_
  refine r_istore_n (lv' := [(2, .int (0 : Int32)), (0, .ref v0), (1, .int v1)]) C dJ7_fill_53178_1 (by decide) rfl rfl ?_
  refine r_aload_n C dJ7_fill_53178_2 rfl ?_
  obtain ⟨t1, e2, hf0⟩ := ob hf0
  refine r_alen C dJ7_fill_53178_3 e2 ?_
  refine r_istore_n (lv' := [(3, .int t1), (2, .int (0 : Int32)), (0, .ref v0), (1, .int v1)]) C dJ7_fill_53178_4 (by decide) rfl rfl ?_
  obtain ⟨y3, hl5, hf0⟩ := ob hf0
  have L5 : ∀ (n : Nat) (t4 : Int32) (h5 : aH), whileL n (fun q : Int32 × aH => f_J7_fill_53178_b5 v0 v1 t1 q.1 q.2) (t4, h5) = some y3 → gW p l e (rmO 0 0 0) s m args below meth c (MQ below (eQ D cA B Hb out none) args s 0 0 (fun q => B ≤ q)) D cA B Hb 4 h5 5 [(0, .ref v0), (1, .int v1), (2, .int t4), (3, .int t1)] [] 0 0 := by
    intro n
    induction n with
    | zero => intro t4 h5 hz; cases hz
    | succ n ih5 =>
      intro t4 h5 hz
      obtain ⟨x5, hf1, hk5⟩ := wl hz
      replace hf1 : f_J7_fill_53178_b5 v0 v1 t1 t4 h5 = some x5 := hf1
      unfold f_J7_fill_53178_b5 at hf1
      refine r_iload_n C dJ7_fill_53178_5 rfl ?_
      refine r_iload_n C dJ7_fill_53178_6 rfl ?_
      refine r_icmp_ge (tgt := 20) C dJ7_fill_53178_7 (by decide) (fun c6 => ?_) (fun c6 => ?_)
      · rw [if_pos c6] at hf1
        obtain rfl := so hf1
        obtain rfl := so (show some h5 = some y3 from hk5)
        obtain rfl := so hf0
        exact r_vret C dJ7_fill_53178_20
      · rw [if_neg c6] at hf1
        refine r_aload_n C dJ7_fill_53178_10 rfl ?_
        refine r_iload_n C dJ7_fill_53178_11 rfl ?_
        refine r_iload_n C dJ7_fill_53178_12 rfl ?_
        obtain ⟨h7, e8, hf1⟩ := ob hf1
        refine r_stI C dJ7_fill_53178_13 e8 ?_
        obtain ⟨t9, e10, hf1⟩ := ob hf1
        refine r_iinc (lv' := [(2, .int t9), (0, .ref v0), (1, .int v1), (3, .int t1)]) C dJ7_fill_53178_14 rfl e10 (by decide) rfl ?_
        refine r_goto (tgt := 5) C dJ7_fill_53178_17 (by decide) ?_
        obtain rfl := so hf1
        refine r_subk [1, 2, 0, 3] (lv' := [(0, .ref v0), (1, .int v1), (2, .int t9), (3, .int t1)]) rfl ?_
        exact ih5 t9 h7 hk5
  refine r_subk [2, 3, 1, 0] (lv' := [(0, .ref v0), (1, .int v1), (2, .int (0 : Int32)), (3, .int t1)]) rfl ?_
  exact L5 wN (0 : Int32) h hl5
def f_X1_canBe (h : aH) (v0 : Nat) (v1 : Int32) : Option (Int32) := (gR h 1 v0 5).bind fun t1 => (lI h t1 v1).bind fun t2 => if t2 ≤ 0 then some (0 : Int32) else some (1 : Int32)
theorem s_X1_canBe {h : aH} {v0 : Nat} {v1 : Int32} {out : Int32} (hf0 : f_X1_canBe h v0 v1 = some out) : EV 0 yX1_canBe cX1_canBe 2 (some .boolean) h [.ref v0, .int v1] (some (.int out)) h 0 0 := by
  refine EV.of (own := RX1) (lv0 := [(0, .ref v0), (1, .int v1)]) (by decide +kernel) rfl rfl (Nat.le_of_ble_eq_true rfl) ?_
  intro p l e s m args below meth c D cA B Hb C hin
  unfold f_X1_canBe at hf0
  refine r_aload_n C dX1_canBe_0 rfl ?_
  obtain ⟨t1, e2, hf0⟩ := ob hf0
  refine r_getR C fk_X1_31 rfl dX1_canBe_1 e2 ?_
  refine r_iload_n C dX1_canBe_4 rfl ?_
  obtain ⟨t3, e4, hf0⟩ := ob hf0
  refine r_ldI C dX1_canBe_5 e4 ?_
  refine r_ifle (tgt := 13) C dX1_canBe_6 (by decide) (fun c5 => ?_) (fun c5 => ?_)
  · rw [if_pos c5] at hf0
    refine r_iconst (v := 0) C dX1_canBe_13 (by decide) ?_
    obtain rfl := so hf0
    exact r_zret C dX1_canBe_14 (Or.inl rfl)
  · rw [if_neg c5] at hf0
    refine r_iconst (v := 1) C dX1_canBe_9 (by decide) ?_
    refine r_goto (tgt := 14) C dX1_canBe_10 (by decide) ?_
    obtain rfl := so hf0
    exact r_zret C dX1_canBe_14 (Or.inr rfl)
def f_X0_sayingsOf_b4 (h : aH) (v0 : Int32) (v1 : Int32) (v2 : Int32) (v3 : Int32) : Option ((Int32 × Int32) ⊕ (Int32)) := if (12 : Int32) ≤ v3 then some (.inr v2) else (some (v2 ||| ((((v0 >>> (v3 &&& 31)) &&& (1 : Int32)) <<< (((2 : Int32) * v3) &&& 31)) ||| (((v1 >>> (v3 &&& 31)) &&& (1 : Int32)) <<< ((((2 : Int32) * v3) + (1 : Int32)) &&& 31))))).bind fun t1 => (some (v3 + (1 : Int32))).bind fun t2 => some (.inl (t1, t2))
def f_X0_sayingsOf_l4 (h : aH) (v0 : Int32) (v1 : Int32) (v2 : Int32) (v3 : Int32) : Option (Int32) := whileL wN (fun q : Int32 × Int32 => f_X0_sayingsOf_b4 h v0 v1 q.1 q.2) (v2, v3)
def f_X0_sayingsOf (h : aH) (v0 : Int32) (v1 : Int32) : Option (Int32) := (f_X0_sayingsOf_l4 h v0 v1 (0 : Int32) (0 : Int32)).bind fun t3 => some t3
theorem s_X0_sayingsOf {h : aH} {v0 : Int32} {v1 : Int32} {out : Int32} (hf0 : f_X0_sayingsOf h v0 v1 = some out) : EV 0 yX0_sayingsOf cX0_sayingsOf 4 (some .int) h [.int v0, .int v1] (some (.int out)) h 0 0 := by
  refine EV.of (own := RX0) (lv0 := [(0, .int v0), (1, .int v1)]) (by decide +kernel) rfl rfl (Nat.le_of_ble_eq_true rfl) ?_
  intro p l e s m args below meth c D cA B Hb C hin
  unfold f_X0_sayingsOf at hf0
  refine r_iconst (v := 0) C dX0_sayingsOf_0 (by decide) ?_
  refine r_istore_n (lv' := [(2, .int (0 : Int32)), (0, .int v0), (1, .int v1)]) C dX0_sayingsOf_1 (by decide) rfl rfl ?_
  refine r_iconst (v := 0) C dX0_sayingsOf_2 (by decide) ?_
  refine r_istore_n (lv' := [(3, .int (0 : Int32)), (2, .int (0 : Int32)), (0, .int v0), (1, .int v1)]) C dX0_sayingsOf_3 (by decide) rfl rfl ?_
  obtain ⟨y1, hl4, hf0⟩ := ob hf0
  have L4 : ∀ (n : Nat) (t2 : Int32) (t3 : Int32), whileL n (fun q : Int32 × Int32 => f_X0_sayingsOf_b4 h v0 v1 q.1 q.2) (t2, t3) = some y1 → gW p l e (rmO 0 0 0) s m args below meth c (MQ below (eQ D cA B Hb h (some (.int out))) args s 0 0 (fun q => B ≤ q)) D cA B Hb 4 h 4 [(0, .int v0), (1, .int v1), (2, .int t2), (3, .int t3)] [] 0 0 := by
    intro n
    induction n with
    | zero => intro t2 t3 hz; cases hz
    | succ n ih4 =>
      intro t2 t3 hz
      obtain ⟨x4, hf1, hk4⟩ := wl hz
      replace hf1 : f_X0_sayingsOf_b4 h v0 v1 t2 t3 = some x4 := hf1
      unfold f_X0_sayingsOf_b4 at hf1
      refine r_iload_n C dX0_sayingsOf_4 rfl ?_
      refine r_bipush (v := 12) C dX0_sayingsOf_5 (by decide) ?_
      refine r_icmp_ge (tgt := 40) C dX0_sayingsOf_7 (by decide) (fun c4 => ?_) (fun c4 => ?_)
      · rw [if_pos c4] at hf1
        obtain rfl := so hf1
        obtain rfl := so (show some t2 = some y1 from hk4)
        refine r_iload_n C dX0_sayingsOf_40 rfl ?_
        obtain rfl := so hf0
        exact r_iret C dX0_sayingsOf_41
      · rw [if_neg c4] at hf1
        refine r_iload_n C dX0_sayingsOf_10 rfl ?_
        refine r_iload_n C dX0_sayingsOf_11 rfl ?_
        refine r_iload_n C dX0_sayingsOf_12 rfl ?_
        refine r_ishr C dX0_sayingsOf_13 ?_
        refine r_iconst (v := 1) C dX0_sayingsOf_14 (by decide) ?_
        refine r_iand C dX0_sayingsOf_15 ?_
        refine r_iconst (v := 2) C dX0_sayingsOf_16 (by decide) ?_
        refine r_iload_n C dX0_sayingsOf_17 rfl ?_
        refine r_imul C dX0_sayingsOf_18 ?_
        refine r_ishl C dX0_sayingsOf_19 ?_
        refine r_iload_n C dX0_sayingsOf_20 rfl ?_
        refine r_iload_n C dX0_sayingsOf_21 rfl ?_
        refine r_ishr C dX0_sayingsOf_22 ?_
        refine r_iconst (v := 1) C dX0_sayingsOf_23 (by decide) ?_
        refine r_iand C dX0_sayingsOf_24 ?_
        refine r_iconst (v := 2) C dX0_sayingsOf_25 (by decide) ?_
        refine r_iload_n C dX0_sayingsOf_26 rfl ?_
        refine r_imul C dX0_sayingsOf_27 ?_
        refine r_iconst (v := 1) C dX0_sayingsOf_28 (by decide) ?_
        refine r_iadd C dX0_sayingsOf_29 ?_
        refine r_ishl C dX0_sayingsOf_30 ?_
        refine r_ior C dX0_sayingsOf_31 ?_
        refine r_ior C dX0_sayingsOf_32 ?_
        obtain ⟨t5, e6, hf1⟩ := ob hf1
        refine r_istore_n (lv' := [(2, .int t5), (0, .int v0), (1, .int v1), (3, .int t3)]) C dX0_sayingsOf_33 (by decide) e6 rfl ?_
        obtain ⟨t7, e8, hf1⟩ := ob hf1
        refine r_iinc (lv' := [(3, .int t7), (2, .int t5), (0, .int v0), (1, .int v1)]) C dX0_sayingsOf_34 rfl e8 (by decide) rfl ?_
        refine r_goto (tgt := 4) C dX0_sayingsOf_37 (by decide) ?_
        obtain rfl := so hf1
        refine r_subk [2, 3, 1, 0] (lv' := [(0, .int v0), (1, .int v1), (2, .int t5), (3, .int t7)]) rfl ?_
        exact ih4 t5 t7 hk4
  refine r_subk [2, 3, 1, 0] (lv' := [(0, .int v0), (1, .int v1), (2, .int (0 : Int32)), (3, .int (0 : Int32))]) rfl ?_
  exact L4 wN (0 : Int32) (0 : Int32) hl4
def f_X1_inQuestion (h : aH) (v0 : Nat) (v1 : Int32) (v2 : Int32) : Option (Int32) := (gR h 1 v0 6).bind fun t1 => (lI h t1 v2).bind fun t2 => some ((t2 >>> (v1 &&& 31)) &&& (1 : Int32))
theorem s_X1_inQuestion {h : aH} {v0 : Nat} {v1 : Int32} {v2 : Int32} {out : Int32} (hf0 : f_X1_inQuestion h v0 v1 v2 = some out) : EV 0 yX1_inQuestion cX1_inQuestion 3 (some .int) h [.ref v0, .int v1, .int v2] (some (.int out)) h 0 0 := by
  refine EV.of (own := RX1) (lv0 := [(0, .ref v0), (1, .int v1), (2, .int v2)]) (by decide +kernel) rfl rfl (Nat.le_of_ble_eq_true rfl) ?_
  intro p l e s m args below meth c D cA B Hb C hin
  unfold f_X1_inQuestion at hf0
  refine r_aload_n C dX1_inQuestion_0 rfl ?_
  obtain ⟨t1, e2, hf0⟩ := ob hf0
  refine r_getR C fk_X1_34 rfl dX1_inQuestion_1 e2 ?_
  refine r_iload_n C dX1_inQuestion_4 rfl ?_
  obtain ⟨t3, e4, hf0⟩ := ob hf0
  refine r_ldI C dX1_inQuestion_5 e4 ?_
  refine r_iload_n C dX1_inQuestion_6 rfl ?_
  refine r_ishr C dX1_inQuestion_7 ?_
  refine r_iconst (v := 1) C dX1_inQuestion_8 (by decide) ?_
  refine r_iand C dX1_inQuestion_9 ?_
  obtain rfl := so hf0
  exact r_iret C dX1_inQuestion_10
def f_X0_relateSayings_j126 (h : aH) (v0 : Nat) (v1 : Nat) (v2 : Int32) : Option ((Int32 × aH) ⊕ (aH)) := (some (v2 + (1 : Int32))).bind fun t6 => some (.inl (t6, h))
def f_X0_relateSayings_j120 (h : aH) (v0 : Nat) (v1 : Nat) (v2 : Int32) (v3 : Int32) (v4 : Int32) : Option ((Int32 × aH) ⊕ (aH)) := (some (v4 + (1 : Int32))).bind fun t16 => some (.inl (t16, h))
def f_X0_relateSayings_b75 (v0 : Nat) (v1 : Nat) (v2 : Int32) (v3 : Int32) (v4 : Int32) (h : aH) : Option ((Int32 × aH) ⊕ (aH)) := (gI h 1 v1 16).bind fun t17 => if t17 ≤ v4 then some (.inr h) else (ck h 1 v1).bind fun _ => (f_X1_inQuestion h v1 v4 v2).bind fun t18 => if t18 = (1 : Int32) then (gR h 0 v0 2).bind fun t22 => (lI h t22 v4).bind fun t23 => (sI h t22 v4 (t23 ||| v3)).bind fun h24 => f_X0_relateSayings_j120 h24 v0 v1 v2 v3 v4 else (gR h 0 v0 3).bind fun t19 => (lI h t19 v4).bind fun t20 => (sI h t19 v4 (t20 ||| v3)).bind fun h21 => f_X0_relateSayings_j120 h21 v0 v1 v2 v3 v4
def f_X0_relateSayings_l75 (v0 : Nat) (v1 : Nat) (v2 : Int32) (v3 : Int32) (v4 : Int32) (h : aH) : Option (aH) := whileL wN (fun q : Int32 × aH => f_X0_relateSayings_b75 v0 v1 v2 v3 q.1 q.2) (v4, h)
def f_X0_relateSayings_b23 (v0 : Nat) (v1 : Nat) (v2 : Int32) (h : aH) : Option ((Int32 × aH) ⊕ (aH)) := (gI h 1 v1 14).bind fun t7 => if t7 ≤ v2 then some (.inr h) else (ck h 1 v1).bind fun _ => (f_X1_canBe h v1 v2).bind fun t8 => if t8 = 0 then f_X0_relateSayings_j126 h v0 v1 v2 else (gR h 1 v1 6).bind fun t9 => (lI h t9 v2).bind fun t10 => (gR h 1 v1 6).bind fun t11 => (lI h t11 v2).bind fun t12 => (f_X0_sayingsOf h t10 (t12 ^^^ (-1 : Int32))).bind fun t13 => (gI h 0 v0 4).bind fun t14 => (pI h 0 v0 4 (t14 ||| (t13 ^^^ (-1 : Int32)))).bind fun h15 => (f_X0_relateSayings_l75 v0 v1 v2 t13 (0 : Int32) h15).bind fun h25 => f_X0_relateSayings_j126 h25 v0 v1 v2
def f_X0_relateSayings_l23 (v0 : Nat) (v1 : Nat) (v2 : Int32) (h : aH) : Option (aH) := whileL wN (fun q : Int32 × aH => f_X0_relateSayings_b23 v0 v1 q.1 q.2) (v2, h)
def f_X0_relateSayings (h : aH) (v0 : Nat) (v1 : Nat) : Option (aH) := (pI h 0 v0 4 (0 : Int32)).bind fun h1 => (gR h1 0 v0 2).bind fun t2 => (f_J7_fill_53178 h1 t2 (0 : Int32)).bind fun h3 => (gR h3 0 v0 3).bind fun t4 => (f_J7_fill_53178 h3 t4 (0 : Int32)).bind fun h5 => (f_X0_relateSayings_l23 v0 v1 (0 : Int32) h5).bind fun h26 => some h26
theorem s_X0_relateSayings {h : aH} {v0 : Nat} {v1 : Nat} {out : aH} (hf0 : f_X0_relateSayings h v0 v1 = some out) : EV 1 yX0_relateSayings cX0_relateSayings 5 none h [.ref v0, .ref v1] none out 0 0 := by
  refine EV.of (own := RX0) (lv0 := [(0, .ref v0), (1, .ref v1)]) (by decide +kernel) rfl rfl (Nat.le_of_ble_eq_true rfl) ?_
  intro p l e s m args below meth c D cA B Hb C hin
  unfold f_X0_relateSayings at hf0
  refine r_aload_n C dX0_relateSayings_0 rfl ?_
  refine r_iconst (v := 0) C dX0_relateSayings_1 (by decide) ?_
  obtain ⟨h1, e2, hf0⟩ := ob hf0
  refine r_putI C fk_X0_24 dX0_relateSayings_2 e2 ?_
  refine r_aload_n C dX0_relateSayings_5 rfl ?_
  obtain ⟨t3, e4, hf0⟩ := ob hf0
  refine r_getR C fk_X0_18 rfl dX0_relateSayings_6 e4 ?_
  refine r_iconst (v := 0) C dX0_relateSayings_9 (by decide) ?_
  obtain ⟨h5, e6, hf0⟩ := ob hf0
  refine r_cS (rest := []) (st2 := []) C (s_J7_fill_53178 e6) mk_J7_fill_53178 sm_J7_fill_53178 lk_X0_52 rfl rfl rfl dX0_relateSayings_10 (Nat.le_of_ble_eq_true rfl) ⟨Nat.le_of_ble_eq_true rfl, Nat.le_of_ble_eq_true rfl⟩ ⟨Nat.le_of_ble_eq_true rfl, Nat.le_of_ble_eq_true rfl⟩ ?_
  refine r_aload_n C dX0_relateSayings_13 rfl ?_
  obtain ⟨t7, e8, hf0⟩ := ob hf0
  refine r_getR C fk_X0_21 rfl dX0_relateSayings_14 e8 ?_
  refine r_iconst (v := 0) C dX0_relateSayings_17 (by decide) ?_
  obtain ⟨h9, e10, hf0⟩ := ob hf0
  refine r_cS (rest := []) (st2 := []) C (s_J7_fill_53178 e10) mk_J7_fill_53178 sm_J7_fill_53178 lk_X0_52 rfl rfl rfl dX0_relateSayings_18 (Nat.le_of_ble_eq_true rfl) ⟨Nat.le_of_ble_eq_true rfl, Nat.le_of_ble_eq_true rfl⟩ ⟨Nat.le_of_ble_eq_true rfl, Nat.le_of_ble_eq_true rfl⟩ ?_
  refine r_iconst (v := 0) C dX0_relateSayings_21 (by decide) ?_
  refine r_istore_n (lv' := [(2, .int (0 : Int32)), (0, .ref v0), (1, .ref v1)]) C dX0_relateSayings_22 (by decide) rfl rfl ?_
  obtain ⟨y11, hl23, hf0⟩ := ob hf0
  have L23 : ∀ (n : Nat) (t12 : Int32) (h13 : aH), whileL n (fun q : Int32 × aH => f_X0_relateSayings_b23 v0 v1 q.1 q.2) (t12, h13) = some y11 → gW p l e (rmO 1 0 0) s m args below meth c (MQ below (eQ D cA B Hb out none) args s 0 0 (fun q => B ≤ q)) D cA B Hb 5 h13 23 [(0, .ref v0), (1, .ref v1), (2, .int t12)] [] 0 0 := by
    intro n
    induction n with
    | zero => intro t12 h13 hz; cases hz
    | succ n ih23 =>
      intro t12 h13 hz
      obtain ⟨x23, hf1, hk23⟩ := wl hz
      replace hf1 : f_X0_relateSayings_b23 v0 v1 t12 h13 = some x23 := hf1
      unfold f_X0_relateSayings_b23 at hf1
      have J126 : ∀ (h14 : aH) (t15 : Int32), f_X0_relateSayings_j126 h14 v0 v1 t15 = some x23 → gW p l e (rmO 1 0 0) s m args below meth c (MQ below (eQ D cA B Hb out none) args s 0 0 (fun q => B ≤ q)) D cA B Hb 5 h14 126 [(0, .ref v0), (1, .ref v1), (2, .int t15)] [] 0 0 := by
        intro h14 t15 hf1
        unfold f_X0_relateSayings_j126 at hf1
        obtain ⟨t16, e17, hf1⟩ := ob hf1
        refine r_iinc (lv' := [(2, .int t16), (0, .ref v0), (1, .ref v1)]) C dX0_relateSayings_126 rfl e17 (by decide) rfl ?_
        refine r_goto (tgt := 23) C dX0_relateSayings_129 (by decide) ?_
        obtain rfl := so hf1
        refine r_subk [1, 2, 0] (lv' := [(0, .ref v0), (1, .ref v1), (2, .int t16)]) rfl ?_
        exact ih23 t16 h14 hk23
      refine r_iload_n C dX0_relateSayings_23 rfl ?_
      refine r_aload_n C dX0_relateSayings_24 rfl ?_
      obtain ⟨t18, e19, hf1⟩ := ob hf1
      refine r_getI C fk_X0_41 rfl dX0_relateSayings_25 e19 ?_
      refine r_icmp_ge (tgt := 132) C dX0_relateSayings_28 (by decide) (fun c20 => ?_) (fun c20 => ?_)
      · rw [if_pos c20] at hf1
        obtain rfl := so hf1
        obtain rfl := so (show some h13 = some y11 from hk23)
        obtain rfl := so hf0
        exact r_vret C dX0_relateSayings_132
      · rw [if_neg c20] at hf1
        refine r_aload_n C dX0_relateSayings_31 rfl ?_
        refine r_iload_n C dX0_relateSayings_32 rfl ?_
        obtain ⟨u22, e21, hf1⟩ := ob hf1
        obtain ⟨t23, e24, hf1⟩ := ob hf1
        refine r_cV (ci := 1) (rest := []) (st2 := [.int t23]) C (s_X1_canBe e24) mk_X1_canBe rfl (ck_k e21) (by decide) im_X1_canBe sl_X1_canBe lk_X0_44 rfl rfl rfl dX0_relateSayings_33 (Nat.le_of_ble_eq_true rfl) ⟨Nat.le_of_ble_eq_true rfl, Nat.le_of_ble_eq_true rfl⟩ ⟨Nat.le_of_ble_eq_true rfl, Nat.le_of_ble_eq_true rfl⟩ ?_
        refine r_ifne (tgt := 42) C dX0_relateSayings_36 (by decide) (fun c25 => ?_) (fun c25 => ?_)
        · rw [if_neg c25] at hf1
          refine r_aload_n C dX0_relateSayings_42 rfl ?_
          obtain ⟨t26, e27, hf1⟩ := ob hf1
          refine r_getR C fk_X0_58 rfl dX0_relateSayings_43 e27 ?_
          refine r_iload_n C dX0_relateSayings_46 rfl ?_
          obtain ⟨t28, e29, hf1⟩ := ob hf1
          refine r_ldI C dX0_relateSayings_47 e29 ?_
          refine r_aload_n C dX0_relateSayings_48 rfl ?_
          obtain ⟨t30, e31, hf1⟩ := ob hf1
          refine r_getR C fk_X0_58 rfl dX0_relateSayings_49 e31 ?_
          refine r_iload_n C dX0_relateSayings_52 rfl ?_
          obtain ⟨t32, e33, hf1⟩ := ob hf1
          refine r_ldI C dX0_relateSayings_53 e33 ?_
          refine r_iconst (v := -1) C dX0_relateSayings_54 (by decide) ?_
          refine r_ixor C dX0_relateSayings_55 ?_
          obtain ⟨t34, e35, hf1⟩ := ob hf1
          refine r_cS (rest := []) (st2 := [.int t34]) C (s_X0_sayingsOf e35) mk_X0_sayingsOf sm_X0_sayingsOf lk_X0_61 rfl rfl rfl dX0_relateSayings_56 (Nat.le_of_ble_eq_true rfl) ⟨Nat.le_of_ble_eq_true rfl, Nat.le_of_ble_eq_true rfl⟩ ⟨Nat.le_of_ble_eq_true rfl, Nat.le_of_ble_eq_true rfl⟩ ?_
          refine r_istore_n (lv' := [(3, .int t34), (0, .ref v0), (1, .ref v1), (2, .int t12)]) C dX0_relateSayings_59 (by decide) rfl rfl ?_
          refine r_aload_n C dX0_relateSayings_60 rfl ?_
          refine r_dup C dX0_relateSayings_61 rfl ?_
          obtain ⟨t36, e37, hf1⟩ := ob hf1
          refine r_getI C fk_X0_24 rfl dX0_relateSayings_62 e37 ?_
          refine r_iload_n C dX0_relateSayings_65 rfl ?_
          refine r_iconst (v := -1) C dX0_relateSayings_66 (by decide) ?_
          refine r_ixor C dX0_relateSayings_67 ?_
          refine r_ior C dX0_relateSayings_68 ?_
          obtain ⟨h38, e39, hf1⟩ := ob hf1
          refine r_putI C fk_X0_24 dX0_relateSayings_69 e39 ?_
          refine r_iconst (v := 0) C dX0_relateSayings_72 (by decide) ?_
          refine r_istore (lv' := [(4, .int (0 : Int32)), (3, .int t34), (0, .ref v0), (1, .ref v1), (2, .int t12)]) C dX0_relateSayings_73 (by decide) rfl rfl ?_
          obtain ⟨y40, hl75, hf1⟩ := ob hf1
          have L75 : ∀ (n : Nat) (t41 : Int32) (h42 : aH), whileL n (fun q : Int32 × aH => f_X0_relateSayings_b75 v0 v1 t12 t34 q.1 q.2) (t41, h42) = some y40 → gW p l e (rmO 1 0 0) s m args below meth c (MQ below (eQ D cA B Hb out none) args s 0 0 (fun q => B ≤ q)) D cA B Hb 5 h42 75 [(0, .ref v0), (1, .ref v1), (2, .int t12), (3, .int t34), (4, .int t41)] [] 0 0 := by
            intro n
            induction n with
            | zero => intro t41 h42 hz; cases hz
            | succ n ih75 =>
              intro t41 h42 hz
              obtain ⟨x75, hf2, hk75⟩ := wl hz
              replace hf2 : f_X0_relateSayings_b75 v0 v1 t12 t34 t41 h42 = some x75 := hf2
              unfold f_X0_relateSayings_b75 at hf2
              have J120 : ∀ (h43 : aH) (t44 : Int32), f_X0_relateSayings_j120 h43 v0 v1 t12 t34 t44 = some x75 → gW p l e (rmO 1 0 0) s m args below meth c (MQ below (eQ D cA B Hb out none) args s 0 0 (fun q => B ≤ q)) D cA B Hb 5 h43 120 [(0, .ref v0), (1, .ref v1), (2, .int t12), (3, .int t34), (4, .int t44)] [] 0 0 := by
                intro h43 t44 hf2
                unfold f_X0_relateSayings_j120 at hf2
                obtain ⟨t45, e46, hf2⟩ := ob hf2
                refine r_iinc (lv' := [(4, .int t45), (0, .ref v0), (1, .ref v1), (2, .int t12), (3, .int t34)]) C dX0_relateSayings_120 rfl e46 (by decide) rfl ?_
                refine r_goto (tgt := 75) C dX0_relateSayings_123 (by decide) ?_
                obtain rfl := so hf2
                refine r_subk [1, 2, 3, 4, 0] (lv' := [(0, .ref v0), (1, .ref v1), (2, .int t12), (3, .int t34), (4, .int t45)]) rfl ?_
                exact ih75 t45 h43 hk75
              refine r_iload C dX0_relateSayings_75 rfl ?_
              refine r_aload_n C dX0_relateSayings_77 rfl ?_
              obtain ⟨t47, e48, hf2⟩ := ob hf2
              refine r_getI C fk_X0_65 rfl dX0_relateSayings_78 e48 ?_
              refine r_icmp_ge (tgt := 126) C dX0_relateSayings_81 (by decide) (fun c49 => ?_) (fun c49 => ?_)
              · rw [if_pos c49] at hf2
                obtain rfl := so hf2
                obtain rfl := so (show some h42 = some y40 from hk75)
                refine r_subk [0, 1, 2] (lv' := [(0, .ref v0), (1, .ref v1), (2, .int t12)]) rfl ?_
                exact J126 h42 t12 hf1
              · rw [if_neg c49] at hf2
                refine r_aload_n C dX0_relateSayings_84 rfl ?_
                refine r_iload C dX0_relateSayings_85 rfl ?_
                refine r_iload_n C dX0_relateSayings_87 rfl ?_
                obtain ⟨u51, e50, hf2⟩ := ob hf2
                obtain ⟨t52, e53, hf2⟩ := ob hf2
                refine r_cV (ci := 1) (rest := []) (st2 := [.int t52]) C (s_X1_inQuestion e53) mk_X1_inQuestion rfl (ck_k e50) (by decide) im_X1_inQuestion sl_X1_inQuestion lk_X0_68 rfl rfl rfl dX0_relateSayings_88 (Nat.le_of_ble_eq_true rfl) ⟨Nat.le_of_ble_eq_true rfl, Nat.le_of_ble_eq_true rfl⟩ ⟨Nat.le_of_ble_eq_true rfl, Nat.le_of_ble_eq_true rfl⟩ ?_
                refine r_iconst (v := 1) C dX0_relateSayings_91 (by decide) ?_
                refine r_icmp_ne (tgt := 109) C dX0_relateSayings_92 (by decide) (fun c54 => ?_) (fun c54 => ?_)
                · rw [if_neg c54] at hf2
                  refine r_aload_n C dX0_relateSayings_109 rfl ?_
                  obtain ⟨t55, e56, hf2⟩ := ob hf2
                  refine r_getR C fk_X0_21 rfl dX0_relateSayings_110 e56 ?_
                  refine r_iload C dX0_relateSayings_113 rfl ?_
                  refine r_dup2 C dX0_relateSayings_115 rfl rfl ?_
                  obtain ⟨t57, e58, hf2⟩ := ob hf2
                  refine r_ldI C dX0_relateSayings_116 e58 ?_
                  refine r_iload_n C dX0_relateSayings_117 rfl ?_
                  refine r_ior C dX0_relateSayings_118 ?_
                  obtain ⟨h59, e60, hf2⟩ := ob hf2
                  refine r_stI C dX0_relateSayings_119 e60 ?_
                  exact J120 h59 t41 hf2
                · rw [if_pos c54] at hf2
                  refine r_aload_n C dX0_relateSayings_95 rfl ?_
                  obtain ⟨t61, e62, hf2⟩ := ob hf2
                  refine r_getR C fk_X0_18 rfl dX0_relateSayings_96 e62 ?_
                  refine r_iload C dX0_relateSayings_99 rfl ?_
                  refine r_dup2 C dX0_relateSayings_101 rfl rfl ?_
                  obtain ⟨t63, e64, hf2⟩ := ob hf2
                  refine r_ldI C dX0_relateSayings_102 e64 ?_
                  refine r_iload_n C dX0_relateSayings_103 rfl ?_
                  refine r_ior C dX0_relateSayings_104 ?_
                  obtain ⟨h65, e66, hf2⟩ := ob hf2
                  refine r_stI C dX0_relateSayings_105 e66 ?_
                  refine r_goto (tgt := 120) C dX0_relateSayings_106 (by decide) ?_
                  exact J120 h65 t41 hf2
          refine r_subk [2, 3, 4, 1, 0] (lv' := [(0, .ref v0), (1, .ref v1), (2, .int t12), (3, .int t34), (4, .int (0 : Int32))]) rfl ?_
          exact L75 wN (0 : Int32) h38 hl75
        · rw [if_pos c25] at hf1
          refine r_goto (tgt := 126) C dX0_relateSayings_39 (by decide) ?_
          exact J126 h13 t12 hf1
  refine r_subk [1, 2, 0] (lv' := [(0, .ref v0), (1, .ref v1), (2, .int (0 : Int32))]) rfl ?_
  exact L23 wN (0 : Int32) h9 hl23
def f_X1_valueIn (h : aH) (v0 : Nat) (v1 : Int32) (v2 : Int32) : Option (Int32) := (gR h 1 v0 1).bind fun t1 => (lI h t1 (v2 + (1 : Int32))).bind fun t2 => (gR h 1 v0 1).bind fun t3 => (lI h t3 v2).bind fun t4 => (some (t2 - t4)).bind fun t5 => (gR h 1 v0 2).bind fun t6 => (lI h t6 v2).bind fun t7 => if t7 < (1 : Int32) then some (-1 : Int32) else if (1 : Int32) ≤ t5 then (gR h 1 v0 1).bind fun t8 => (lI h t8 v2).bind fun t9 => (gR h 1 v0 2).bind fun t10 => (lI h t10 v2).bind fun t11 => (nz t11).bind fun _ => (nz t5).bind fun _ => some (t9 + ((v1 / t11) - (v1 / t11) / t5 * t5)) else some (-1 : Int32)
theorem s_X1_valueIn {h : aH} {v0 : Nat} {v1 : Int32} {v2 : Int32} {out : Int32} (hf0 : f_X1_valueIn h v0 v1 v2 = some out) : EV 0 yX1_valueIn cX1_valueIn 4 (some .int) h [.ref v0, .int v1, .int v2] (some (.int out)) h 0 0 := by
  refine EV.of (own := RX1) (lv0 := [(0, .ref v0), (1, .int v1), (2, .int v2)]) (by decide +kernel) rfl rfl (Nat.le_of_ble_eq_true rfl) ?_
  intro p l e s m args below meth c D cA B Hb C hin
  unfold f_X1_valueIn at hf0
  refine r_aload_n C dX1_valueIn_0 rfl ?_
  obtain ⟨t1, e2, hf0⟩ := ob hf0
  refine r_getR C fk_X1_18 rfl dX1_valueIn_1 e2 ?_
  refine r_iload_n C dX1_valueIn_4 rfl ?_
  refine r_iconst (v := 1) C dX1_valueIn_5 (by decide) ?_
  refine r_iadd C dX1_valueIn_6 ?_
  obtain ⟨t3, e4, hf0⟩ := ob hf0
  refine r_ldI C dX1_valueIn_7 e4 ?_
  refine r_aload_n C dX1_valueIn_8 rfl ?_
  obtain ⟨t5, e6, hf0⟩ := ob hf0
  refine r_getR C fk_X1_18 rfl dX1_valueIn_9 e6 ?_
  refine r_iload_n C dX1_valueIn_12 rfl ?_
  obtain ⟨t7, e8, hf0⟩ := ob hf0
  refine r_ldI C dX1_valueIn_13 e8 ?_
  refine r_isub C dX1_valueIn_14 ?_
  obtain ⟨t9, e10, hf0⟩ := ob hf0
  refine r_istore_n (lv' := [(3, .int t9), (0, .ref v0), (1, .int v1), (2, .int v2)]) C dX1_valueIn_15 (by decide) e10 rfl ?_
  refine r_aload_n C dX1_valueIn_16 rfl ?_
  obtain ⟨t11, e12, hf0⟩ := ob hf0
  refine r_getR C fk_X1_22 rfl dX1_valueIn_17 e12 ?_
  refine r_iload_n C dX1_valueIn_20 rfl ?_
  obtain ⟨t13, e14, hf0⟩ := ob hf0
  refine r_ldI C dX1_valueIn_21 e14 ?_
  refine r_iconst (v := 1) C dX1_valueIn_22 (by decide) ?_
  refine r_icmp_lt (tgt := 31) C dX1_valueIn_23 (by decide) (fun c15 => ?_) (fun c15 => ?_)
  · rw [if_pos c15] at hf0
    refine r_iconst (v := -1) C dX1_valueIn_31 (by decide) ?_
    obtain rfl := so hf0
    exact r_iret C dX1_valueIn_32
  · rw [if_neg c15] at hf0
    refine r_iload_n C dX1_valueIn_26 rfl ?_
    refine r_iconst (v := 1) C dX1_valueIn_27 (by decide) ?_
    refine r_icmp_ge (tgt := 33) C dX1_valueIn_28 (by decide) (fun c16 => ?_) (fun c16 => ?_)
    · rw [if_pos c16] at hf0
      refine r_aload_n C dX1_valueIn_33 rfl ?_
      obtain ⟨t17, e18, hf0⟩ := ob hf0
      refine r_getR C fk_X1_18 rfl dX1_valueIn_34 e18 ?_
      refine r_iload_n C dX1_valueIn_37 rfl ?_
      obtain ⟨t19, e20, hf0⟩ := ob hf0
      refine r_ldI C dX1_valueIn_38 e20 ?_
      refine r_iload_n C dX1_valueIn_39 rfl ?_
      refine r_aload_n C dX1_valueIn_40 rfl ?_
      obtain ⟨t21, e22, hf0⟩ := ob hf0
      refine r_getR C fk_X1_22 rfl dX1_valueIn_41 e22 ?_
      refine r_iload_n C dX1_valueIn_44 rfl ?_
      obtain ⟨t23, e24, hf0⟩ := ob hf0
      refine r_ldI C dX1_valueIn_45 e24 ?_
      obtain ⟨u26, e25, hf0⟩ := ob hf0
      refine r_idiv C dX1_valueIn_46 (nz_k e25) ?_
      refine r_iload_n C dX1_valueIn_47 rfl ?_
      obtain ⟨u28, e27, hf0⟩ := ob hf0
      refine r_irem C dX1_valueIn_48 (nz_k e27) ?_
      refine r_iadd C dX1_valueIn_49 ?_
      obtain rfl := so hf0
      exact r_iret C dX1_valueIn_50
    · rw [if_neg c16] at hf0
      refine r_iconst (v := -1) C dX1_valueIn_31 (by decide) ?_
      obtain rfl := so hf0
      exact r_iret C dX1_valueIn_32
def f_X0_knownIn_j54 (h : aH) (v0 : Nat) (v1 : Int32) (v2 : Int32) (v3 : Int32) (v4 : Int32) : Option ((Int32 × Int32) ⊕ (Int32)) := (some (v4 + (1 : Int32))).bind fun t1 => some (.inl (v3, t1))
def f_X0_knownIn_b5 (h : aH) (v0 : Nat) (v1 : Int32) (v2 : Int32) (v3 : Int32) (v4 : Int32) : Option ((Int32 × Int32) ⊕ (Int32)) := (gI h 1 v0 12).bind fun t2 => if t2 ≤ v4 then some (.inr v3) else (gR h 1 v0 9).bind fun t3 => (lI h t3 v1).bind fun t4 => if ((t4 >>> (v4 &&& 31)) &&& (1 : Int32)) = 0 then f_X0_knownIn_j54 h v0 v1 v2 v3 v4 else (ck h 1 v0).bind fun _ => (f_X1_valueIn h v0 v2 v4).bind fun t5 => (gR h 1 v0 1).bind fun t6 => (lI h t6 v4).bind fun t7 => (gR h 1 v0 2).bind fun t8 => (lI h t8 v4).bind fun t9 => (some (v3 + ((t5 - t7) * t9))).bind fun t10 => f_X0_knownIn_j54 h v0 v1 v2 t10 v4
def f_X0_knownIn_l5 (h : aH) (v0 : Nat) (v1 : Int32) (v2 : Int32) (v3 : Int32) (v4 : Int32) : Option (Int32) := whileL wN (fun q : Int32 × Int32 => f_X0_knownIn_b5 h v0 v1 v2 q.1 q.2) (v3, v4)
def f_X0_knownIn (h : aH) (v0 : Nat) (v1 : Int32) (v2 : Int32) : Option (Int32) := (f_X0_knownIn_l5 h v0 v1 v2 (0 : Int32) (0 : Int32)).bind fun t11 => some t11
theorem s_X0_knownIn {h : aH} {v0 : Nat} {v1 : Int32} {v2 : Int32} {out : Int32} (hf0 : f_X0_knownIn h v0 v1 v2 = some out) : EV 1 yX0_knownIn cX0_knownIn 5 (some .int) h [.ref v0, .int v1, .int v2] (some (.int out)) h 0 0 := by
  refine EV.of (own := RX0) (lv0 := [(0, .ref v0), (1, .int v1), (2, .int v2)]) (by decide +kernel) rfl rfl (Nat.le_of_ble_eq_true rfl) ?_
  intro p l e s m args below meth c D cA B Hb C hin
  unfold f_X0_knownIn at hf0
  refine r_iconst (v := 0) C dX0_knownIn_0 (by decide) ?_
  refine r_istore_n (lv' := [(3, .int (0 : Int32)), (0, .ref v0), (1, .int v1), (2, .int v2)]) C dX0_knownIn_1 (by decide) rfl rfl ?_
  refine r_iconst (v := 0) C dX0_knownIn_2 (by decide) ?_
  refine r_istore (lv' := [(4, .int (0 : Int32)), (3, .int (0 : Int32)), (0, .ref v0), (1, .int v1), (2, .int v2)]) C dX0_knownIn_3 (by decide) rfl rfl ?_
  obtain ⟨y1, hl5, hf0⟩ := ob hf0
  have L5 : ∀ (n : Nat) (t2 : Int32) (t3 : Int32), whileL n (fun q : Int32 × Int32 => f_X0_knownIn_b5 h v0 v1 v2 q.1 q.2) (t2, t3) = some y1 → gW p l e (rmO 1 0 0) s m args below meth c (MQ below (eQ D cA B Hb h (some (.int out))) args s 0 0 (fun q => B ≤ q)) D cA B Hb 5 h 5 [(0, .ref v0), (1, .int v1), (2, .int v2), (3, .int t2), (4, .int t3)] [] 0 0 := by
    intro n
    induction n with
    | zero => intro t2 t3 hz; cases hz
    | succ n ih5 =>
      intro t2 t3 hz
      obtain ⟨x5, hf1, hk5⟩ := wl hz
      replace hf1 : f_X0_knownIn_b5 h v0 v1 v2 t2 t3 = some x5 := hf1
      unfold f_X0_knownIn_b5 at hf1
      have J54 : ∀ (t4 : Int32) (t5 : Int32), f_X0_knownIn_j54 h v0 v1 v2 t4 t5 = some x5 → gW p l e (rmO 1 0 0) s m args below meth c (MQ below (eQ D cA B Hb h (some (.int out))) args s 0 0 (fun q => B ≤ q)) D cA B Hb 5 h 54 [(0, .ref v0), (1, .int v1), (2, .int v2), (3, .int t4), (4, .int t5)] [] 0 0 := by
        intro t4 t5 hf1
        unfold f_X0_knownIn_j54 at hf1
        obtain ⟨t6, e7, hf1⟩ := ob hf1
        refine r_iinc (lv' := [(4, .int t6), (0, .ref v0), (1, .int v1), (2, .int v2), (3, .int t4)]) C dX0_knownIn_54 rfl e7 (by decide) rfl ?_
        refine r_goto (tgt := 5) C dX0_knownIn_57 (by decide) ?_
        obtain rfl := so hf1
        refine r_subk [1, 2, 3, 4, 0] (lv' := [(0, .ref v0), (1, .int v1), (2, .int v2), (3, .int t4), (4, .int t6)]) rfl ?_
        exact ih5 t4 t6 hk5
      refine r_iload C dX0_knownIn_5 rfl ?_
      refine r_aload_n C dX0_knownIn_7 rfl ?_
      obtain ⟨t8, e9, hf1⟩ := ob hf1
      refine r_getI C fk_X0_75 rfl dX0_knownIn_8 e9 ?_
      refine r_icmp_ge (tgt := 60) C dX0_knownIn_11 (by decide) (fun c10 => ?_) (fun c10 => ?_)
      · rw [if_pos c10] at hf1
        obtain rfl := so hf1
        obtain rfl := so (show some t2 = some y1 from hk5)
        refine r_iload_n C dX0_knownIn_60 rfl ?_
        obtain rfl := so hf0
        exact r_iret C dX0_knownIn_61
      · rw [if_neg c10] at hf1
        refine r_aload_n C dX0_knownIn_14 rfl ?_
        obtain ⟨t11, e12, hf1⟩ := ob hf1
        refine r_getR C fk_X0_78 rfl dX0_knownIn_15 e12 ?_
        refine r_iload_n C dX0_knownIn_18 rfl ?_
        obtain ⟨t13, e14, hf1⟩ := ob hf1
        refine r_ldI C dX0_knownIn_19 e14 ?_
        refine r_iload C dX0_knownIn_20 rfl ?_
        refine r_ishr C dX0_knownIn_22 ?_
        refine r_iconst (v := 1) C dX0_knownIn_23 (by decide) ?_
        refine r_iand C dX0_knownIn_24 ?_
        refine r_ifeq (tgt := 54) C dX0_knownIn_25 (by decide) (fun c15 => ?_) (fun c15 => ?_)
        · rw [if_pos c15] at hf1
          exact J54 t2 t3 hf1
        · rw [if_neg c15] at hf1
          refine r_iload_n C dX0_knownIn_28 rfl ?_
          refine r_aload_n C dX0_knownIn_29 rfl ?_
          refine r_iload_n C dX0_knownIn_30 rfl ?_
          refine r_iload C dX0_knownIn_31 rfl ?_
          obtain ⟨u17, e16, hf1⟩ := ob hf1
          obtain ⟨t18, e19, hf1⟩ := ob hf1
          refine r_cV (ci := 1) (rest := [.int t2]) (st2 := [.int t18, .int t2]) C (s_X1_valueIn e19) mk_X1_valueIn rfl (ck_k e16) (by decide) im_X1_valueIn sl_X1_valueIn lk_X0_81 rfl rfl rfl dX0_knownIn_33 (Nat.le_of_ble_eq_true rfl) ⟨Nat.le_of_ble_eq_true rfl, Nat.le_of_ble_eq_true rfl⟩ ⟨Nat.le_of_ble_eq_true rfl, Nat.le_of_ble_eq_true rfl⟩ ?_
          refine r_aload_n C dX0_knownIn_36 rfl ?_
          obtain ⟨t20, e21, hf1⟩ := ob hf1
          refine r_getR C fk_X0_84 rfl dX0_knownIn_37 e21 ?_
          refine r_iload C dX0_knownIn_40 rfl ?_
          obtain ⟨t22, e23, hf1⟩ := ob hf1
          refine r_ldI C dX0_knownIn_42 e23 ?_
          refine r_isub C dX0_knownIn_43 ?_
          refine r_aload_n C dX0_knownIn_44 rfl ?_
          obtain ⟨t24, e25, hf1⟩ := ob hf1
          refine r_getR C fk_X0_87 rfl dX0_knownIn_45 e25 ?_
          refine r_iload C dX0_knownIn_48 rfl ?_
          obtain ⟨t26, e27, hf1⟩ := ob hf1
          refine r_ldI C dX0_knownIn_50 e27 ?_
          refine r_imul C dX0_knownIn_51 ?_
          refine r_iadd C dX0_knownIn_52 ?_
          obtain ⟨t28, e29, hf1⟩ := ob hf1
          refine r_istore_n (lv' := [(3, .int t28), (0, .ref v0), (1, .int v1), (2, .int v2), (4, .int t3)]) C dX0_knownIn_53 (by decide) e29 rfl ?_
          refine r_subk [1, 2, 3, 0, 4] (lv' := [(0, .ref v0), (1, .int v1), (2, .int v2), (3, .int t28), (4, .int t3)]) rfl ?_
          exact J54 t28 t3 hf1
  refine r_subk [2, 3, 4, 1, 0] (lv' := [(0, .ref v0), (1, .int v1), (2, .int v2), (3, .int (0 : Int32)), (4, .int (0 : Int32))]) rfl ?_
  exact L5 wN (0 : Int32) (0 : Int32) hl5
def f_X0_gatherKnown_j74 (h : aH) (v0 : Nat) (v1 : Nat) (v2 : Int32) (v3 : Int32) : Option ((Int32 × aH) ⊕ (aH)) := (some (v3 + (1 : Int32))).bind fun t5 => some (.inl (t5, h))
def f_X0_gatherKnown_b18 (v0 : Nat) (v1 : Nat) (v2 : Int32) (v3 : Int32) (h : aH) : Option ((Int32 × aH) ⊕ (aH)) := (gI h 1 v1 14).bind fun t6 => if t6 ≤ v3 then some (.inr h) else (ck h 1 v1).bind fun _ => (f_X1_canBe h v1 v3).bind fun t7 => if t7 = 0 then f_X0_gatherKnown_j74 h v0 v1 v2 v3 else (f_X0_knownIn h v1 v2 v3).bind fun t8 => (gR h 0 v0 0).bind fun t9 => (lI h t9 t8).bind fun t10 => (gR h 1 v1 6).bind fun t11 => (lI h t11 v3).bind fun t12 => (sI h t9 t8 (t10 &&& t12)).bind fun h13 => (gR h13 0 v0 1).bind fun t14 => (lI h13 t14 t8).bind fun t15 => (gR h13 1 v1 6).bind fun t16 => (lI h13 t16 v3).bind fun t17 => (sI h13 t14 t8 (t15 ||| t17)).bind fun h18 => f_X0_gatherKnown_j74 h18 v0 v1 v2 v3
def f_X0_gatherKnown_l18 (v0 : Nat) (v1 : Nat) (v2 : Int32) (v3 : Int32) (h : aH) : Option (aH) := whileL wN (fun q : Int32 × aH => f_X0_gatherKnown_b18 v0 v1 v2 q.1 q.2) (v3, h)
def f_X0_gatherKnown (h : aH) (v0 : Nat) (v1 : Nat) (v2 : Int32) : Option (aH) := (gR h 0 v0 0).bind fun t1 => (f_J7_fill_53178 h t1 (-1 : Int32)).bind fun h2 => (gR h2 0 v0 1).bind fun t3 => (f_J7_fill_53178 h2 t3 (0 : Int32)).bind fun h4 => (f_X0_gatherKnown_l18 v0 v1 v2 (0 : Int32) h4).bind fun h19 => some h19
theorem s_X0_gatherKnown {h : aH} {v0 : Nat} {v1 : Nat} {v2 : Int32} {out : aH} (hf0 : f_X0_gatherKnown h v0 v1 v2 = some out) : EV 2 yX0_gatherKnown cX0_gatherKnown 5 none h [.ref v0, .ref v1, .int v2] none out 0 0 := by
  refine EV.of (own := RX0) (lv0 := [(0, .ref v0), (1, .ref v1), (2, .int v2)]) (by decide +kernel) rfl rfl (Nat.le_of_ble_eq_true rfl) ?_
  intro p l e s m args below meth c D cA B Hb C hin
  unfold f_X0_gatherKnown at hf0
  refine r_aload_n C dX0_gatherKnown_0 rfl ?_
  obtain ⟨t1, e2, hf0⟩ := ob hf0
  refine r_getR C fk_X0_9 rfl dX0_gatherKnown_1 e2 ?_
  refine r_iconst (v := -1) C dX0_gatherKnown_4 (by decide) ?_
  obtain ⟨h3, e4, hf0⟩ := ob hf0
  refine r_cS (rest := []) (st2 := []) C (s_J7_fill_53178 e4) mk_J7_fill_53178 sm_J7_fill_53178 lk_X0_52 rfl rfl rfl dX0_gatherKnown_5 (Nat.le_of_ble_eq_true rfl) ⟨Nat.le_of_ble_eq_true rfl, Nat.le_of_ble_eq_true rfl⟩ ⟨Nat.le_of_ble_eq_true rfl, Nat.le_of_ble_eq_true rfl⟩ ?_
  refine r_aload_n C dX0_gatherKnown_8 rfl ?_
  obtain ⟨t5, e6, hf0⟩ := ob hf0
  refine r_getR C fk_X0_15 rfl dX0_gatherKnown_9 e6 ?_
  refine r_iconst (v := 0) C dX0_gatherKnown_12 (by decide) ?_
  obtain ⟨h7, e8, hf0⟩ := ob hf0
  refine r_cS (rest := []) (st2 := []) C (s_J7_fill_53178 e8) mk_J7_fill_53178 sm_J7_fill_53178 lk_X0_52 rfl rfl rfl dX0_gatherKnown_13 (Nat.le_of_ble_eq_true rfl) ⟨Nat.le_of_ble_eq_true rfl, Nat.le_of_ble_eq_true rfl⟩ ⟨Nat.le_of_ble_eq_true rfl, Nat.le_of_ble_eq_true rfl⟩ ?_
  refine r_iconst (v := 0) C dX0_gatherKnown_16 (by decide) ?_
  refine r_istore_n (lv' := [(3, .int (0 : Int32)), (0, .ref v0), (1, .ref v1), (2, .int v2)]) C dX0_gatherKnown_17 (by decide) rfl rfl ?_
  obtain ⟨y9, hl18, hf0⟩ := ob hf0
  have L18 : ∀ (n : Nat) (t10 : Int32) (h11 : aH), whileL n (fun q : Int32 × aH => f_X0_gatherKnown_b18 v0 v1 v2 q.1 q.2) (t10, h11) = some y9 → gW p l e (rmO 2 0 0) s m args below meth c (MQ below (eQ D cA B Hb out none) args s 0 0 (fun q => B ≤ q)) D cA B Hb 5 h11 18 [(0, .ref v0), (1, .ref v1), (2, .int v2), (3, .int t10)] [] 0 0 := by
    intro n
    induction n with
    | zero => intro t10 h11 hz; cases hz
    | succ n ih18 =>
      intro t10 h11 hz
      obtain ⟨x18, hf1, hk18⟩ := wl hz
      replace hf1 : f_X0_gatherKnown_b18 v0 v1 v2 t10 h11 = some x18 := hf1
      unfold f_X0_gatherKnown_b18 at hf1
      have J74 : ∀ (h12 : aH) (t13 : Int32), f_X0_gatherKnown_j74 h12 v0 v1 v2 t13 = some x18 → gW p l e (rmO 2 0 0) s m args below meth c (MQ below (eQ D cA B Hb out none) args s 0 0 (fun q => B ≤ q)) D cA B Hb 5 h12 74 [(0, .ref v0), (1, .ref v1), (2, .int v2), (3, .int t13)] [] 0 0 := by
        intro h12 t13 hf1
        unfold f_X0_gatherKnown_j74 at hf1
        obtain ⟨t14, e15, hf1⟩ := ob hf1
        refine r_iinc (lv' := [(3, .int t14), (0, .ref v0), (1, .ref v1), (2, .int v2)]) C dX0_gatherKnown_74 rfl e15 (by decide) rfl ?_
        refine r_goto (tgt := 18) C dX0_gatherKnown_77 (by decide) ?_
        obtain rfl := so hf1
        refine r_subk [1, 2, 3, 0] (lv' := [(0, .ref v0), (1, .ref v1), (2, .int v2), (3, .int t14)]) rfl ?_
        exact ih18 t14 h12 hk18
      refine r_iload_n C dX0_gatherKnown_18 rfl ?_
      refine r_aload_n C dX0_gatherKnown_19 rfl ?_
      obtain ⟨t16, e17, hf1⟩ := ob hf1
      refine r_getI C fk_X0_41 rfl dX0_gatherKnown_20 e17 ?_
      refine r_icmp_ge (tgt := 80) C dX0_gatherKnown_23 (by decide) (fun c18 => ?_) (fun c18 => ?_)
      · rw [if_pos c18] at hf1
        obtain rfl := so hf1
        obtain rfl := so (show some h11 = some y9 from hk18)
        obtain rfl := so hf0
        exact r_vret C dX0_gatherKnown_80
      · rw [if_neg c18] at hf1
        refine r_aload_n C dX0_gatherKnown_26 rfl ?_
        refine r_iload_n C dX0_gatherKnown_27 rfl ?_
        obtain ⟨u20, e19, hf1⟩ := ob hf1
        obtain ⟨t21, e22, hf1⟩ := ob hf1
        refine r_cV (ci := 1) (rest := []) (st2 := [.int t21]) C (s_X1_canBe e22) mk_X1_canBe rfl (ck_k e19) (by decide) im_X1_canBe sl_X1_canBe lk_X0_44 rfl rfl rfl dX0_gatherKnown_28 (Nat.le_of_ble_eq_true rfl) ⟨Nat.le_of_ble_eq_true rfl, Nat.le_of_ble_eq_true rfl⟩ ⟨Nat.le_of_ble_eq_true rfl, Nat.le_of_ble_eq_true rfl⟩ ?_
        refine r_ifeq (tgt := 74) C dX0_gatherKnown_31 (by decide) (fun c23 => ?_) (fun c23 => ?_)
        · rw [if_pos c23] at hf1
          exact J74 h11 t10 hf1
        · rw [if_neg c23] at hf1
          refine r_aload_n C dX0_gatherKnown_34 rfl ?_
          refine r_iload_n C dX0_gatherKnown_35 rfl ?_
          refine r_iload_n C dX0_gatherKnown_36 rfl ?_
          obtain ⟨t24, e25, hf1⟩ := ob hf1
          refine r_cS (rest := []) (st2 := [.int t24]) C (s_X0_knownIn e25) mk_X0_knownIn sm_X0_knownIn lk_X0_71 rfl rfl rfl dX0_gatherKnown_37 (Nat.le_of_ble_eq_true rfl) ⟨Nat.le_of_ble_eq_true rfl, Nat.le_of_ble_eq_true rfl⟩ ⟨Nat.le_of_ble_eq_true rfl, Nat.le_of_ble_eq_true rfl⟩ ?_
          refine r_istore (lv' := [(4, .int t24), (0, .ref v0), (1, .ref v1), (2, .int v2), (3, .int t10)]) C dX0_gatherKnown_40 (by decide) rfl rfl ?_
          refine r_aload_n C dX0_gatherKnown_42 rfl ?_
          obtain ⟨t26, e27, hf1⟩ := ob hf1
          refine r_getR C fk_X0_9 rfl dX0_gatherKnown_43 e27 ?_
          refine r_iload C dX0_gatherKnown_46 rfl ?_
          refine r_dup2 C dX0_gatherKnown_48 rfl rfl ?_
          obtain ⟨t28, e29, hf1⟩ := ob hf1
          refine r_ldI C dX0_gatherKnown_49 e29 ?_
          refine r_aload_n C dX0_gatherKnown_50 rfl ?_
          obtain ⟨t30, e31, hf1⟩ := ob hf1
          refine r_getR C fk_X0_58 rfl dX0_gatherKnown_51 e31 ?_
          refine r_iload_n C dX0_gatherKnown_54 rfl ?_
          obtain ⟨t32, e33, hf1⟩ := ob hf1
          refine r_ldI C dX0_gatherKnown_55 e33 ?_
          refine r_iand C dX0_gatherKnown_56 ?_
          obtain ⟨h34, e35, hf1⟩ := ob hf1
          refine r_stI C dX0_gatherKnown_57 e35 ?_
          refine r_aload_n C dX0_gatherKnown_58 rfl ?_
          obtain ⟨t36, e37, hf1⟩ := ob hf1
          refine r_getR C fk_X0_15 rfl dX0_gatherKnown_59 e37 ?_
          refine r_iload C dX0_gatherKnown_62 rfl ?_
          refine r_dup2 C dX0_gatherKnown_64 rfl rfl ?_
          obtain ⟨t38, e39, hf1⟩ := ob hf1
          refine r_ldI C dX0_gatherKnown_65 e39 ?_
          refine r_aload_n C dX0_gatherKnown_66 rfl ?_
          obtain ⟨t40, e41, hf1⟩ := ob hf1
          refine r_getR C fk_X0_58 rfl dX0_gatherKnown_67 e41 ?_
          refine r_iload_n C dX0_gatherKnown_70 rfl ?_
          obtain ⟨t42, e43, hf1⟩ := ob hf1
          refine r_ldI C dX0_gatherKnown_71 e43 ?_
          refine r_ior C dX0_gatherKnown_72 ?_
          obtain ⟨h44, e45, hf1⟩ := ob hf1
          refine r_stI C dX0_gatherKnown_73 e45 ?_
          refine r_subk [1, 2, 3, 4] (lv' := [(0, .ref v0), (1, .ref v1), (2, .int v2), (3, .int t10)]) rfl ?_
          exact J74 h44 t10 hf1
  refine r_subk [1, 2, 3, 0] (lv' := [(0, .ref v0), (1, .ref v1), (2, .int v2), (3, .int (0 : Int32))]) rfl ?_
  exact L18 wN (0 : Int32) h7 hl18
def f_X0_otherThan (h : aH) (v0 : Nat) (v1 : Int32) : Option (Int32) := (gR h 0 v0 2).bind fun t1 => (lI h t1 v1).bind fun t2 => (gR h 0 v0 3).bind fun t3 => (lI h t3 v1).bind fun t4 => (gI h 0 v0 4).bind fun t5 => some (((t2 &&& t4) &&& t5) &&& (((3 : Int32) <<< (((2 : Int32) * v1) &&& 31)) ^^^ (-1 : Int32)))
theorem s_X0_otherThan {h : aH} {v0 : Nat} {v1 : Int32} {out : Int32} (hf0 : f_X0_otherThan h v0 v1 = some out) : EV 0 yX0_otherThan cX0_otherThan 2 (some .int) h [.ref v0, .int v1] (some (.int out)) h 0 0 := by
  refine EV.of (own := RX0) (lv0 := [(0, .ref v0), (1, .int v1)]) (by decide +kernel) rfl rfl (Nat.le_of_ble_eq_true rfl) ?_
  intro p l e s m args below meth c D cA B Hb C hin
  unfold f_X0_otherThan at hf0
  refine r_aload_n C dX0_otherThan_0 rfl ?_
  obtain ⟨t1, e2, hf0⟩ := ob hf0
  refine r_getR C fk_X0_18 rfl dX0_otherThan_1 e2 ?_
  refine r_iload_n C dX0_otherThan_4 rfl ?_
  obtain ⟨t3, e4, hf0⟩ := ob hf0
  refine r_ldI C dX0_otherThan_5 e4 ?_
  refine r_aload_n C dX0_otherThan_6 rfl ?_
  obtain ⟨t5, e6, hf0⟩ := ob hf0
  refine r_getR C fk_X0_21 rfl dX0_otherThan_7 e6 ?_
  refine r_iload_n C dX0_otherThan_10 rfl ?_
  obtain ⟨t7, e8, hf0⟩ := ob hf0
  refine r_ldI C dX0_otherThan_11 e8 ?_
  refine r_iand C dX0_otherThan_12 ?_
  refine r_aload_n C dX0_otherThan_13 rfl ?_
  obtain ⟨t9, e10, hf0⟩ := ob hf0
  refine r_getI C fk_X0_24 rfl dX0_otherThan_14 e10 ?_
  refine r_iand C dX0_otherThan_17 ?_
  refine r_iconst (v := 3) C dX0_otherThan_18 (by decide) ?_
  refine r_iconst (v := 2) C dX0_otherThan_19 (by decide) ?_
  refine r_iload_n C dX0_otherThan_20 rfl ?_
  refine r_imul C dX0_otherThan_21 ?_
  refine r_ishl C dX0_otherThan_22 ?_
  refine r_iconst (v := -1) C dX0_otherThan_23 (by decide) ?_
  refine r_ixor C dX0_otherThan_24 ?_
  refine r_iand C dX0_otherThan_25 ?_
  obtain rfl := so hf0
  exact r_iret C dX0_otherThan_26
def f_J6_bitCount_0f7a4 (h : aH) (v0 : Int32) : Option (Int32) := (some (v0 - (((Int32.toUInt32 v0 >>> (Int32.toUInt32 (1 : Int32) &&& Int32.toUInt32 31)).toInt32) &&& (1431655765 : Int32)))).bind fun t1 => (some ((t1 &&& (858993459 : Int32)) + (((Int32.toUInt32 t1 >>> (Int32.toUInt32 (2 : Int32) &&& Int32.toUInt32 31)).toInt32) &&& (858993459 : Int32)))).bind fun t2 => (some ((t2 + ((Int32.toUInt32 t2 >>> (Int32.toUInt32 (4 : Int32) &&& Int32.toUInt32 31)).toInt32)) &&& (252645135 : Int32))).bind fun t3 => (some (t3 + ((Int32.toUInt32 t3 >>> (Int32.toUInt32 (8 : Int32) &&& Int32.toUInt32 31)).toInt32))).bind fun t4 => (some (t4 + ((Int32.toUInt32 t4 >>> (Int32.toUInt32 (16 : Int32) &&& Int32.toUInt32 31)).toInt32))).bind fun t5 => some (t5 &&& (63 : Int32))
theorem s_J6_bitCount_0f7a4 {h : aH} {v0 : Int32} {out : Int32} (hf0 : f_J6_bitCount_0f7a4 h v0 = some out) : EV 0 yJ6_bitCount_0f7a4 cJ6_bitCount_0f7a4 1 (some .int) h [.int v0] (some (.int out)) h 0 0 := by
  refine EV.of (own := RJ6) (lv0 := [(0, .int v0)]) (by decide +kernel) rfl rfl (Nat.le_of_ble_eq_true rfl) ?_
  intro p l e s m args below meth c D cA B Hb C hin
  unfold f_J6_bitCount_0f7a4 at hf0
  refine r_iload_n C dJ6_bitCount_0f7a4_0 rfl ?_
  refine r_iload_n C dJ6_bitCount_0f7a4_1 rfl ?_
  refine r_iconst (v := 1) C dJ6_bitCount_0f7a4_2 (by decide) ?_
  refine r_iushr C dJ6_bitCount_0f7a4_3 ?_
  refine r_ldcw (v := 1431655765) C dJ6_bitCount_0f7a4_4 cn_J6_265 ?_
  refine r_iand C dJ6_bitCount_0f7a4_7 ?_
  refine r_isub C dJ6_bitCount_0f7a4_8 ?_
  obtain ⟨t1, e2, hf0⟩ := ob hf0
  refine r_istore_n (lv' := [(0, .int t1)]) C dJ6_bitCount_0f7a4_9 (by decide) e2 rfl ?_
  refine r_iload_n C dJ6_bitCount_0f7a4_10 rfl ?_
  refine r_ldcw (v := 858993459) C dJ6_bitCount_0f7a4_11 cn_J6_266 ?_
  refine r_iand C dJ6_bitCount_0f7a4_14 ?_
  refine r_iload_n C dJ6_bitCount_0f7a4_15 rfl ?_
  refine r_iconst (v := 2) C dJ6_bitCount_0f7a4_16 (by decide) ?_
  refine r_iushr C dJ6_bitCount_0f7a4_17 ?_
  refine r_ldcw (v := 858993459) C dJ6_bitCount_0f7a4_18 cn_J6_266 ?_
  refine r_iand C dJ6_bitCount_0f7a4_21 ?_
  refine r_iadd C dJ6_bitCount_0f7a4_22 ?_
  obtain ⟨t3, e4, hf0⟩ := ob hf0
  refine r_istore_n (lv' := [(0, .int t3)]) C dJ6_bitCount_0f7a4_23 (by decide) e4 rfl ?_
  refine r_iload_n C dJ6_bitCount_0f7a4_24 rfl ?_
  refine r_iload_n C dJ6_bitCount_0f7a4_25 rfl ?_
  refine r_iconst (v := 4) C dJ6_bitCount_0f7a4_26 (by decide) ?_
  refine r_iushr C dJ6_bitCount_0f7a4_27 ?_
  refine r_iadd C dJ6_bitCount_0f7a4_28 ?_
  refine r_ldcw (v := 252645135) C dJ6_bitCount_0f7a4_29 cn_J6_267 ?_
  refine r_iand C dJ6_bitCount_0f7a4_32 ?_
  obtain ⟨t5, e6, hf0⟩ := ob hf0
  refine r_istore_n (lv' := [(0, .int t5)]) C dJ6_bitCount_0f7a4_33 (by decide) e6 rfl ?_
  refine r_iload_n C dJ6_bitCount_0f7a4_34 rfl ?_
  refine r_iload_n C dJ6_bitCount_0f7a4_35 rfl ?_
  refine r_bipush (v := 8) C dJ6_bitCount_0f7a4_36 (by decide) ?_
  refine r_iushr C dJ6_bitCount_0f7a4_38 ?_
  refine r_iadd C dJ6_bitCount_0f7a4_39 ?_
  obtain ⟨t7, e8, hf0⟩ := ob hf0
  refine r_istore_n (lv' := [(0, .int t7)]) C dJ6_bitCount_0f7a4_40 (by decide) e8 rfl ?_
  refine r_iload_n C dJ6_bitCount_0f7a4_41 rfl ?_
  refine r_iload_n C dJ6_bitCount_0f7a4_42 rfl ?_
  refine r_bipush (v := 16) C dJ6_bitCount_0f7a4_43 (by decide) ?_
  refine r_iushr C dJ6_bitCount_0f7a4_45 ?_
  refine r_iadd C dJ6_bitCount_0f7a4_46 ?_
  obtain ⟨t9, e10, hf0⟩ := ob hf0
  refine r_istore_n (lv' := [(0, .int t9)]) C dJ6_bitCount_0f7a4_47 (by decide) e10 rfl ?_
  refine r_iload_n C dJ6_bitCount_0f7a4_48 rfl ?_
  refine r_bipush (v := 63) C dJ6_bitCount_0f7a4_49 (by decide) ?_
  refine r_iand C dJ6_bitCount_0f7a4_51 ?_
  obtain rfl := so hf0
  exact r_iret C dJ6_bitCount_0f7a4_52
def f_X0_firstOr (h : aH) (v0 : Int32) (v1 : Int32) : Option (Int32) := if v0 = 0 then some v1 else (f_J6_bitCount_0f7a4 h ((v0 &&& (-v0)) - (1 : Int32))).bind fun t1 => some t1
theorem s_X0_firstOr {h : aH} {v0 : Int32} {v1 : Int32} {out : Int32} (hf0 : f_X0_firstOr h v0 v1 = some out) : EV 1 yX0_firstOr cX0_firstOr 2 (some .int) h [.int v0, .int v1] (some (.int out)) h 0 0 := by
  refine EV.of (own := RX0) (lv0 := [(0, .int v0), (1, .int v1)]) (by decide +kernel) rfl rfl (Nat.le_of_ble_eq_true rfl) ?_
  intro p l e s m args below meth c D cA B Hb C hin
  unfold f_X0_firstOr at hf0
  refine r_iload_n C dX0_firstOr_0 rfl ?_
  refine r_ifne (tgt := 8) C dX0_firstOr_1 (by decide) (fun c1 => ?_) (fun c1 => ?_)
  · rw [if_neg c1] at hf0
    refine r_iload_n C dX0_firstOr_8 rfl ?_
    refine r_iload_n C dX0_firstOr_9 rfl ?_
    refine r_ineg C dX0_firstOr_10 ?_
    refine r_iand C dX0_firstOr_11 ?_
    refine r_iconst (v := 1) C dX0_firstOr_12 (by decide) ?_
    refine r_isub C dX0_firstOr_13 ?_
    obtain ⟨t2, e3, hf0⟩ := ob hf0
    refine r_cS (rest := []) (st2 := [.int t2]) C (s_J6_bitCount_0f7a4 e3) mk_J6_bitCount_0f7a4 sm_J6_bitCount_0f7a4 lk_X0_107 rfl rfl rfl dX0_firstOr_14 (Nat.le_of_ble_eq_true rfl) ⟨Nat.le_of_ble_eq_true rfl, Nat.le_of_ble_eq_true rfl⟩ ⟨Nat.le_of_ble_eq_true rfl, Nat.le_of_ble_eq_true rfl⟩ ?_
    obtain rfl := so hf0
    exact r_iret C dX0_firstOr_17
  · rw [if_pos c1] at hf0
    refine r_iload_n C dX0_firstOr_4 rfl ?_
    refine r_goto (tgt := 17) C dX0_firstOr_5 (by decide) ?_
    obtain rfl := so hf0
    exact r_iret C dX0_firstOr_17
def f_X0_honestTo (h : aH) (v0 : Nat) (v1 : Int32) (v2 : Int32) : Option (Int32) := (gR h 0 v0 0).bind fun t1 => (lI h t1 v2).bind fun t2 => if ((t2 >>> (v1 &&& 31)) &&& (1 : Int32)) = 0 then (gR h 0 v0 1).bind fun t3 => (lI h t3 v2).bind fun t4 => if ((t4 >>> (v1 &&& 31)) &&& (1 : Int32)) = 0 then (gR h 0 v0 2).bind fun t5 => (lI h t5 v1).bind fun t6 => some (t6 ^^^ (-1 : Int32)) else some (0 : Int32) else (gR h 0 v0 3).bind fun t7 => (lI h t7 v1).bind fun t8 => some ((t8 ^^^ (-1 : Int32)) &&& (((1 : Int32) <<< (((2 : Int32) * v1) &&& 31)) ^^^ (-1 : Int32)))
theorem s_X0_honestTo {h : aH} {v0 : Nat} {v1 : Int32} {v2 : Int32} {out : Int32} (hf0 : f_X0_honestTo h v0 v1 v2 = some out) : EV 0 yX0_honestTo cX0_honestTo 3 (some .int) h [.ref v0, .int v1, .int v2] (some (.int out)) h 0 0 := by
  refine EV.of (own := RX0) (lv0 := [(0, .ref v0), (1, .int v1), (2, .int v2)]) (by decide +kernel) rfl rfl (Nat.le_of_ble_eq_true rfl) ?_
  intro p l e s m args below meth c D cA B Hb C hin
  unfold f_X0_honestTo at hf0
  refine r_aload_n C dX0_honestTo_0 rfl ?_
  obtain ⟨t1, e2, hf0⟩ := ob hf0
  refine r_getR C fk_X0_9 rfl dX0_honestTo_1 e2 ?_
  refine r_iload_n C dX0_honestTo_4 rfl ?_
  obtain ⟨t3, e4, hf0⟩ := ob hf0
  refine r_ldI C dX0_honestTo_5 e4 ?_
  refine r_iload_n C dX0_honestTo_6 rfl ?_
  refine r_ishr C dX0_honestTo_7 ?_
  refine r_iconst (v := 1) C dX0_honestTo_8 (by decide) ?_
  refine r_iand C dX0_honestTo_9 ?_
  refine r_ifeq (tgt := 30) C dX0_honestTo_10 (by decide) (fun c5 => ?_) (fun c5 => ?_)
  · rw [if_pos c5] at hf0
    refine r_aload_n C dX0_honestTo_30 rfl ?_
    obtain ⟨t6, e7, hf0⟩ := ob hf0
    refine r_getR C fk_X0_15 rfl dX0_honestTo_31 e7 ?_
    refine r_iload_n C dX0_honestTo_34 rfl ?_
    obtain ⟨t8, e9, hf0⟩ := ob hf0
    refine r_ldI C dX0_honestTo_35 e9 ?_
    refine r_iload_n C dX0_honestTo_36 rfl ?_
    refine r_ishr C dX0_honestTo_37 ?_
    refine r_iconst (v := 1) C dX0_honestTo_38 (by decide) ?_
    refine r_iand C dX0_honestTo_39 ?_
    refine r_ifne (tgt := 54) C dX0_honestTo_40 (by decide) (fun c10 => ?_) (fun c10 => ?_)
    · rw [if_neg c10] at hf0
      refine r_iconst (v := 0) C dX0_honestTo_54 (by decide) ?_
      obtain rfl := so hf0
      exact r_iret C dX0_honestTo_55
    · rw [if_pos c10] at hf0
      refine r_aload_n C dX0_honestTo_43 rfl ?_
      obtain ⟨t11, e12, hf0⟩ := ob hf0
      refine r_getR C fk_X0_18 rfl dX0_honestTo_44 e12 ?_
      refine r_iload_n C dX0_honestTo_47 rfl ?_
      obtain ⟨t13, e14, hf0⟩ := ob hf0
      refine r_ldI C dX0_honestTo_48 e14 ?_
      refine r_iconst (v := -1) C dX0_honestTo_49 (by decide) ?_
      refine r_ixor C dX0_honestTo_50 ?_
      refine r_goto (tgt := 55) C dX0_honestTo_51 (by decide) ?_
      obtain rfl := so hf0
      exact r_iret C dX0_honestTo_55
  · rw [if_neg c5] at hf0
    refine r_aload_n C dX0_honestTo_13 rfl ?_
    obtain ⟨t15, e16, hf0⟩ := ob hf0
    refine r_getR C fk_X0_21 rfl dX0_honestTo_14 e16 ?_
    refine r_iload_n C dX0_honestTo_17 rfl ?_
    obtain ⟨t17, e18, hf0⟩ := ob hf0
    refine r_ldI C dX0_honestTo_18 e18 ?_
    refine r_iconst (v := -1) C dX0_honestTo_19 (by decide) ?_
    refine r_ixor C dX0_honestTo_20 ?_
    refine r_iconst (v := 1) C dX0_honestTo_21 (by decide) ?_
    refine r_iconst (v := 2) C dX0_honestTo_22 (by decide) ?_
    refine r_iload_n C dX0_honestTo_23 rfl ?_
    refine r_imul C dX0_honestTo_24 ?_
    refine r_ishl C dX0_honestTo_25 ?_
    refine r_iconst (v := -1) C dX0_honestTo_26 (by decide) ?_
    refine r_ixor C dX0_honestTo_27 ?_
    refine r_iand C dX0_honestTo_28 ?_
    obtain rfl := so hf0
    exact r_iret C dX0_honestTo_29
def f_X1_keepAnswers (h : aH) (v0 : Nat) (v1 : Int32) (v2 : Int32) (v3 : Int32) (v4 : Int32) : Option (aH) := (gR h 1 v0 11).bind fun t1 => (sI h t1 ((((v1 * (12 : Int32)) + v2) * (256 : Int32)) + v3) v4).bind fun h2 => some h2
theorem s_X1_keepAnswers {h : aH} {v0 : Nat} {v1 : Int32} {v2 : Int32} {v3 : Int32} {v4 : Int32} {out : aH} (hf0 : f_X1_keepAnswers h v0 v1 v2 v3 v4 = some out) : EV 0 yX1_keepAnswers cX1_keepAnswers 5 none h [.ref v0, .int v1, .int v2, .int v3, .int v4] none out 0 0 := by
  refine EV.of (own := RX1) (lv0 := [(0, .ref v0), (1, .int v1), (2, .int v2), (3, .int v3), (4, .int v4)]) (by decide +kernel) rfl rfl (Nat.le_of_ble_eq_true rfl) ?_
  intro p l e s m args below meth c D cA B Hb C hin
  unfold f_X1_keepAnswers at hf0
  refine r_aload_n C dX1_keepAnswers_0 rfl ?_
  obtain ⟨t1, e2, hf0⟩ := ob hf0
  refine r_getR C fk_X1_49 rfl dX1_keepAnswers_1 e2 ?_
  refine r_iload_n C dX1_keepAnswers_4 rfl ?_
  refine r_bipush (v := 12) C dX1_keepAnswers_5 (by decide) ?_
  refine r_imul C dX1_keepAnswers_7 ?_
  refine r_iload_n C dX1_keepAnswers_8 rfl ?_
  refine r_iadd C dX1_keepAnswers_9 ?_
  refine r_sipush (v := 256) C dX1_keepAnswers_10 (by decide) ?_
  refine r_imul C dX1_keepAnswers_13 ?_
  refine r_iload_n C dX1_keepAnswers_14 rfl ?_
  refine r_iadd C dX1_keepAnswers_15 ?_
  refine r_iload C dX1_keepAnswers_16 rfl ?_
  obtain ⟨h3, e4, hf0⟩ := ob hf0
  refine r_stI C dX1_keepAnswers_18 e4 ?_
  obtain rfl := so hf0
  exact r_vret C dX1_keepAnswers_19
def f_X0_fillWorld_j132 (h : aH) (v0 : Nat) (v1 : Nat) (v2 : Int32) (v3 : Int32) (v4 : Int32) (v5 : Int32) (v6 : Int32) (v7 : Int32) (v8 : Int32) (v9 : Int32) (v10 : Int32) : Option ((Int32 × aH) ⊕ (aH)) := (ck h 1 v1).bind fun _ => (f_X1_keepAnswers h v1 v2 v6 v3 (((v9 ||| (v10 <<< ((5 : Int32) &&& 31))) ||| (v8 <<< ((10 : Int32) &&& 31))) ||| (v7 <<< ((15 : Int32) &&& 31)))).bind fun h9 => (some (v6 + (1 : Int32))).bind fun t10 => some (.inl (t10, h9))
def f_X0_fillWorld_j130 (h : aH) (v0 : Nat) (v1 : Nat) (v2 : Int32) (v3 : Int32) (v4 : Int32) (v5 : Int32) (v6 : Int32) (v7 : Int32) (v8 : Int32) (v9 : Int32) (s0 : Int32) : Option ((Int32 × aH) ⊕ (aH)) := f_X0_fillWorld_j132 h v0 v1 v2 v3 v4 v5 v6 v7 v8 v9 s0
def f_X0_fillWorld_b43 (v0 : Nat) (v1 : Nat) (v2 : Int32) (v3 : Int32) (v4 : Int32) (v5 : Int32) (v6 : Int32) (h : aH) : Option ((Int32 × aH) ⊕ (aH)) := (gI h 1 v1 16).bind fun t11 => if t11 ≤ v6 then some (.inr h) else (some ((2 : Int32) * v6)).bind fun t12 => (ck h 0 v0).bind fun _ => (f_X0_otherThan h v0 v6).bind fun t13 => (f_X0_firstOr h (v5 &&& t13) t12).bind fun t14 => (gR h 1 v1 10).bind fun t15 => (lI h t15 v2).bind fun t16 => if ((t16 >>> (v6 &&& 31)) &&& (1 : Int32)) = 0 then (ck h 0 v0).bind fun _ => (f_X0_honestTo h v0 v6 v4).bind fun t17 => (f_X0_firstOr h (v5 &&& t17) t12).bind fun t18 => if t18 = t12 then f_X0_fillWorld_j130 h v0 v1 v2 v3 v4 v5 v6 t12 t14 t18 t12 else f_X0_fillWorld_j130 h v0 v1 v2 v3 v4 v5 v6 t12 t14 t18 (t18 ^^^ (1 : Int32)) else f_X0_fillWorld_j132 h v0 v1 v2 v3 v4 v5 v6 t12 t14 t14 t14
def f_X0_fillWorld_l43 (v0 : Nat) (v1 : Nat) (v2 : Int32) (v3 : Int32) (v4 : Int32) (v5 : Int32) (v6 : Int32) (h : aH) : Option (aH) := whileL wN (fun q : Int32 × aH => f_X0_fillWorld_b43 v0 v1 v2 v3 v4 v5 q.1 q.2) (v6, h)
def f_X0_fillWorld (h : aH) (v0 : Nat) (v1 : Nat) (v2 : Int32) (v3 : Int32) : Option (aH) := (f_X0_knownIn h v1 v2 v3).bind fun t1 => (gR h 0 v0 0).bind fun t2 => (lI h t2 t1).bind fun t3 => (gR h 0 v0 1).bind fun t4 => (lI h t4 t1).bind fun t5 => (f_X0_sayingsOf h t3 (t5 ^^^ (-1 : Int32))).bind fun t6 => (gI h 1 v1 16).bind fun t7 => (some (t6 &&& (((1 : Int32) <<< (((2 : Int32) * t7) &&& 31)) - (1 : Int32)))).bind fun t8 => (f_X0_fillWorld_l43 v0 v1 v2 v3 t1 t8 (0 : Int32) h).bind fun h19 => some h19
theorem s_X0_fillWorld {h : aH} {v0 : Nat} {v1 : Nat} {v2 : Int32} {v3 : Int32} {out : aH} (hf0 : f_X0_fillWorld h v0 v1 v2 v3 = some out) : EV 2 yX0_fillWorld cX0_fillWorld 11 none h [.ref v0, .ref v1, .int v2, .int v3] none out 0 0 := by
  refine EV.of (own := RX0) (lv0 := [(0, .ref v0), (1, .ref v1), (2, .int v2), (3, .int v3)]) (by decide +kernel) rfl rfl (Nat.le_of_ble_eq_true rfl) ?_
  intro p l e s m args below meth c D cA B Hb C hin
  unfold f_X0_fillWorld at hf0
  refine r_aload_n C dX0_fillWorld_0 rfl ?_
  refine r_iload_n C dX0_fillWorld_1 rfl ?_
  refine r_iload_n C dX0_fillWorld_2 rfl ?_
  obtain ⟨t1, e2, hf0⟩ := ob hf0
  refine r_cS (rest := []) (st2 := [.int t1]) C (s_X0_knownIn e2) mk_X0_knownIn sm_X0_knownIn lk_X0_71 rfl rfl rfl dX0_fillWorld_3 (Nat.le_of_ble_eq_true rfl) ⟨Nat.le_of_ble_eq_true rfl, Nat.le_of_ble_eq_true rfl⟩ ⟨Nat.le_of_ble_eq_true rfl, Nat.le_of_ble_eq_true rfl⟩ ?_
  refine r_istore (lv' := [(4, .int t1), (0, .ref v0), (1, .ref v1), (2, .int v2), (3, .int v3)]) C dX0_fillWorld_6 (by decide) rfl rfl ?_
  refine r_aload_n C dX0_fillWorld_8 rfl ?_
  obtain ⟨t3, e4, hf0⟩ := ob hf0
  refine r_getR C fk_X0_9 rfl dX0_fillWorld_9 e4 ?_
  refine r_iload C dX0_fillWorld_12 rfl ?_
  obtain ⟨t5, e6, hf0⟩ := ob hf0
  refine r_ldI C dX0_fillWorld_14 e6 ?_
  refine r_aload_n C dX0_fillWorld_15 rfl ?_
  obtain ⟨t7, e8, hf0⟩ := ob hf0
  refine r_getR C fk_X0_15 rfl dX0_fillWorld_16 e8 ?_
  refine r_iload C dX0_fillWorld_19 rfl ?_
  obtain ⟨t9, e10, hf0⟩ := ob hf0
  refine r_ldI C dX0_fillWorld_21 e10 ?_
  refine r_iconst (v := -1) C dX0_fillWorld_22 (by decide) ?_
  refine r_ixor C dX0_fillWorld_23 ?_
  obtain ⟨t11, e12, hf0⟩ := ob hf0
  refine r_cS (rest := []) (st2 := [.int t11]) C (s_X0_sayingsOf e12) mk_X0_sayingsOf sm_X0_sayingsOf lk_X0_61 rfl rfl rfl dX0_fillWorld_24 (Nat.le_of_ble_eq_true rfl) ⟨Nat.le_of_ble_eq_true rfl, Nat.le_of_ble_eq_true rfl⟩ ⟨Nat.le_of_ble_eq_true rfl, Nat.le_of_ble_eq_true rfl⟩ ?_
  refine r_iconst (v := 1) C dX0_fillWorld_27 (by decide) ?_
  refine r_iconst (v := 2) C dX0_fillWorld_28 (by decide) ?_
  refine r_aload_n C dX0_fillWorld_29 rfl ?_
  obtain ⟨t13, e14, hf0⟩ := ob hf0
  refine r_getI C fk_X0_65 rfl dX0_fillWorld_30 e14 ?_
  refine r_imul C dX0_fillWorld_33 ?_
  refine r_ishl C dX0_fillWorld_34 ?_
  refine r_iconst (v := 1) C dX0_fillWorld_35 (by decide) ?_
  refine r_isub C dX0_fillWorld_36 ?_
  refine r_iand C dX0_fillWorld_37 ?_
  obtain ⟨t15, e16, hf0⟩ := ob hf0
  refine r_istore (lv' := [(5, .int t15), (4, .int t1), (0, .ref v0), (1, .ref v1), (2, .int v2), (3, .int v3)]) C dX0_fillWorld_38 (by decide) e16 rfl ?_
  refine r_iconst (v := 0) C dX0_fillWorld_40 (by decide) ?_
  refine r_istore (lv' := [(6, .int (0 : Int32)), (5, .int t15), (4, .int t1), (0, .ref v0), (1, .ref v1), (2, .int v2), (3, .int v3)]) C dX0_fillWorld_41 (by decide) rfl rfl ?_
  obtain ⟨y17, hl43, hf0⟩ := ob hf0
  have L43 : ∀ (n : Nat) (t18 : Int32) (h19 : aH), whileL n (fun q : Int32 × aH => f_X0_fillWorld_b43 v0 v1 v2 v3 t1 t15 q.1 q.2) (t18, h19) = some y17 → gW p l e (rmO 2 0 0) s m args below meth c (MQ below (eQ D cA B Hb out none) args s 0 0 (fun q => B ≤ q)) D cA B Hb 11 h19 43 [(0, .ref v0), (1, .ref v1), (2, .int v2), (3, .int v3), (4, .int t1), (5, .int t15), (6, .int t18)] [] 0 0 := by
    intro n
    induction n with
    | zero => intro t18 h19 hz; cases hz
    | succ n ih43 =>
      intro t18 h19 hz
      obtain ⟨x43, hf1, hk43⟩ := wl hz
      replace hf1 : f_X0_fillWorld_b43 v0 v1 v2 v3 t1 t15 t18 h19 = some x43 := hf1
      unfold f_X0_fillWorld_b43 at hf1
      have J132 : ∀ (h20 : aH) (t21 : Int32) (t22 : Int32) (t23 : Int32) (t24 : Int32) (t25 : Int32), f_X0_fillWorld_j132 h20 v0 v1 v2 v3 t1 t15 t21 t22 t23 t24 t25 = some x43 → gW p l e (rmO 2 0 0) s m args below meth c (MQ below (eQ D cA B Hb out none) args s 0 0 (fun q => B ≤ q)) D cA B Hb 11 h20 132 [(0, .ref v0), (1, .ref v1), (2, .int v2), (3, .int v3), (4, .int t1), (5, .int t15), (6, .int t21), (7, .int t22), (8, .int t23), (9, .int t24), (10, .int t25)] [] 0 0 := by
        intro h20 t21 t22 t23 t24 t25 hf1
        unfold f_X0_fillWorld_j132 at hf1
        refine r_aload_n C dX0_fillWorld_132 rfl ?_
        refine r_iload_n C dX0_fillWorld_133 rfl ?_
        refine r_iload C dX0_fillWorld_134 rfl ?_
        refine r_iload_n C dX0_fillWorld_136 rfl ?_
        refine r_iload C dX0_fillWorld_137 rfl ?_
        refine r_iload C dX0_fillWorld_139 rfl ?_
        refine r_iconst (v := 5) C dX0_fillWorld_141 (by decide) ?_
        refine r_ishl C dX0_fillWorld_142 ?_
        refine r_ior C dX0_fillWorld_143 ?_
        refine r_iload C dX0_fillWorld_144 rfl ?_
        refine r_bipush (v := 10) C dX0_fillWorld_146 (by decide) ?_
        refine r_ishl C dX0_fillWorld_148 ?_
        refine r_ior C dX0_fillWorld_149 ?_
        refine r_iload C dX0_fillWorld_150 rfl ?_
        refine r_bipush (v := 15) C dX0_fillWorld_152 (by decide) ?_
        refine r_ishl C dX0_fillWorld_154 ?_
        refine r_ior C dX0_fillWorld_155 ?_
        obtain ⟨u27, e26, hf1⟩ := ob hf1
        obtain ⟨h28, e29, hf1⟩ := ob hf1
        refine r_cV (ci := 1) (rest := []) (st2 := []) C (s_X1_keepAnswers e29) mk_X1_keepAnswers rfl (ck_k e26) (by decide) im_X1_keepAnswers sl_X1_keepAnswers lk_X0_103 rfl rfl rfl dX0_fillWorld_156 (Nat.le_of_ble_eq_true rfl) ⟨Nat.le_of_ble_eq_true rfl, Nat.le_of_ble_eq_true rfl⟩ ⟨Nat.le_of_ble_eq_true rfl, Nat.le_of_ble_eq_true rfl⟩ ?_
        obtain ⟨t30, e31, hf1⟩ := ob hf1
        refine r_iinc (lv' := [(6, .int t30), (0, .ref v0), (1, .ref v1), (2, .int v2), (3, .int v3), (4, .int t1), (5, .int t15), (7, .int t22), (8, .int t23), (9, .int t24), (10, .int t25)]) C dX0_fillWorld_159 rfl e31 (by decide) rfl ?_
        refine r_goto (tgt := 43) C dX0_fillWorld_162 (by decide) ?_
        obtain rfl := so hf1
        refine r_subk [1, 2, 3, 4, 5, 6, 0] (lv' := [(0, .ref v0), (1, .ref v1), (2, .int v2), (3, .int v3), (4, .int t1), (5, .int t15), (6, .int t30)]) rfl ?_
        exact ih43 t30 h28 hk43
      have J130 : ∀ (h32 : aH) (t33 : Int32) (t34 : Int32) (t35 : Int32) (t36 : Int32) (t37 : Int32), f_X0_fillWorld_j130 h32 v0 v1 v2 v3 t1 t15 t33 t34 t35 t36 t37 = some x43 → gW p l e (rmO 2 0 0) s m args below meth c (MQ below (eQ D cA B Hb out none) args s 0 0 (fun q => B ≤ q)) D cA B Hb 11 h32 130 [(0, .ref v0), (1, .ref v1), (2, .int v2), (3, .int v3), (4, .int t1), (5, .int t15), (6, .int t33), (7, .int t34), (8, .int t35), (9, .int t36)] [.int t37] 0 0 := by
        intro h32 t33 t34 t35 t36 t37 hf1
        unfold f_X0_fillWorld_j130 at hf1
        refine r_istore (lv' := [(10, .int t37), (0, .ref v0), (1, .ref v1), (2, .int v2), (3, .int v3), (4, .int t1), (5, .int t15), (6, .int t33), (7, .int t34), (8, .int t35), (9, .int t36)]) C dX0_fillWorld_130 (by decide) rfl rfl ?_
        refine r_subk [1, 2, 3, 4, 5, 6, 7, 8, 9, 10, 0] (lv' := [(0, .ref v0), (1, .ref v1), (2, .int v2), (3, .int v3), (4, .int t1), (5, .int t15), (6, .int t33), (7, .int t34), (8, .int t35), (9, .int t36), (10, .int t37)]) rfl ?_
        exact J132 h32 t33 t34 t35 t36 t37 hf1
      refine r_iload C dX0_fillWorld_43 rfl ?_
      refine r_aload_n C dX0_fillWorld_45 rfl ?_
      obtain ⟨t38, e39, hf1⟩ := ob hf1
      refine r_getI C fk_X0_65 rfl dX0_fillWorld_46 e39 ?_
      refine r_icmp_ge (tgt := 165) C dX0_fillWorld_49 (by decide) (fun c40 => ?_) (fun c40 => ?_)
      · rw [if_pos c40] at hf1
        obtain rfl := so hf1
        obtain rfl := so (show some h19 = some y17 from hk43)
        obtain rfl := so hf0
        exact r_vret C dX0_fillWorld_165
      · rw [if_neg c40] at hf1
        refine r_iconst (v := 2) C dX0_fillWorld_52 (by decide) ?_
        refine r_iload C dX0_fillWorld_53 rfl ?_
        refine r_imul C dX0_fillWorld_55 ?_
        obtain ⟨t41, e42, hf1⟩ := ob hf1
        refine r_istore (lv' := [(7, .int t41), (0, .ref v0), (1, .ref v1), (2, .int v2), (3, .int v3), (4, .int t1), (5, .int t15), (6, .int t18)]) C dX0_fillWorld_56 (by decide) e42 rfl ?_
        refine r_iload C dX0_fillWorld_58 rfl ?_
        refine r_aload_n C dX0_fillWorld_60 rfl ?_
        refine r_iload C dX0_fillWorld_61 rfl ?_
        obtain ⟨u44, e43, hf1⟩ := ob hf1
        obtain ⟨t45, e46, hf1⟩ := ob hf1
        refine r_cV (ci := 0) (rest := [.int t15]) (st2 := [.int t45, .int t15]) C (s_X0_otherThan e46) mk_X0_otherThan rfl (ck_k e43) (by decide) im_X0_otherThan sl_X0_otherThan lk_X0_90 rfl rfl rfl dX0_fillWorld_63 (Nat.le_of_ble_eq_true rfl) ⟨Nat.le_of_ble_eq_true rfl, Nat.le_of_ble_eq_true rfl⟩ ⟨Nat.le_of_ble_eq_true rfl, Nat.le_of_ble_eq_true rfl⟩ ?_
        refine r_iand C dX0_fillWorld_66 ?_
        refine r_iload C dX0_fillWorld_67 rfl ?_
        obtain ⟨t47, e48, hf1⟩ := ob hf1
        refine r_cS (rest := []) (st2 := [.int t47]) C (s_X0_firstOr e48) mk_X0_firstOr sm_X0_firstOr lk_X0_94 rfl rfl rfl dX0_fillWorld_69 (Nat.le_of_ble_eq_true rfl) ⟨Nat.le_of_ble_eq_true rfl, Nat.le_of_ble_eq_true rfl⟩ ⟨Nat.le_of_ble_eq_true rfl, Nat.le_of_ble_eq_true rfl⟩ ?_
        refine r_istore (lv' := [(8, .int t47), (7, .int t41), (0, .ref v0), (1, .ref v1), (2, .int v2), (3, .int v3), (4, .int t1), (5, .int t15), (6, .int t18)]) C dX0_fillWorld_72 (by decide) rfl rfl ?_
        refine r_iload C dX0_fillWorld_74 rfl ?_
        refine r_istore (lv' := [(9, .int t47), (8, .int t47), (7, .int t41), (0, .ref v0), (1, .ref v1), (2, .int v2), (3, .int v3), (4, .int t1), (5, .int t15), (6, .int t18)]) C dX0_fillWorld_76 (by decide) rfl rfl ?_
        refine r_iload C dX0_fillWorld_78 rfl ?_
        refine r_istore (lv' := [(10, .int t47), (9, .int t47), (8, .int t47), (7, .int t41), (0, .ref v0), (1, .ref v1), (2, .int v2), (3, .int v3), (4, .int t1), (5, .int t15), (6, .int t18)]) C dX0_fillWorld_80 (by decide) rfl rfl ?_
        refine r_aload_n C dX0_fillWorld_82 rfl ?_
        obtain ⟨t49, e50, hf1⟩ := ob hf1
        refine r_getR C fk_X0_97 rfl dX0_fillWorld_83 e50 ?_
        refine r_iload_n C dX0_fillWorld_86 rfl ?_
        obtain ⟨t51, e52, hf1⟩ := ob hf1
        refine r_ldI C dX0_fillWorld_87 e52 ?_
        refine r_iload C dX0_fillWorld_88 rfl ?_
        refine r_ishr C dX0_fillWorld_90 ?_
        refine r_iconst (v := 1) C dX0_fillWorld_91 (by decide) ?_
        refine r_iand C dX0_fillWorld_92 ?_
        refine r_ifne (tgt := 132) C dX0_fillWorld_93 (by decide) (fun c53 => ?_) (fun c53 => ?_)
        · rw [if_neg c53] at hf1
          refine r_subk [4, 5, 6, 7, 8, 9, 10, 3, 2, 1, 0] (lv' := [(0, .ref v0), (1, .ref v1), (2, .int v2), (3, .int v3), (4, .int t1), (5, .int t15), (6, .int t18), (7, .int t41), (8, .int t47), (9, .int t47), (10, .int t47)]) rfl ?_
          exact J132 h19 t18 t41 t47 t47 t47 hf1
        · rw [if_pos c53] at hf1
          refine r_iload C dX0_fillWorld_96 rfl ?_
          refine r_aload_n C dX0_fillWorld_98 rfl ?_
          refine r_iload C dX0_fillWorld_99 rfl ?_
          refine r_iload C dX0_fillWorld_101 rfl ?_
          obtain ⟨u55, e54, hf1⟩ := ob hf1
          obtain ⟨t56, e57, hf1⟩ := ob hf1
          refine r_cV (ci := 0) (rest := [.int t15]) (st2 := [.int t56, .int t15]) C (s_X0_honestTo e57) mk_X0_honestTo rfl (ck_k e54) (by decide) im_X0_honestTo sl_X0_honestTo lk_X0_100 rfl rfl rfl dX0_fillWorld_103 (Nat.le_of_ble_eq_true rfl) ⟨Nat.le_of_ble_eq_true rfl, Nat.le_of_ble_eq_true rfl⟩ ⟨Nat.le_of_ble_eq_true rfl, Nat.le_of_ble_eq_true rfl⟩ ?_
          refine r_iand C dX0_fillWorld_106 ?_
          refine r_iload C dX0_fillWorld_107 rfl ?_
          obtain ⟨t58, e59, hf1⟩ := ob hf1
          refine r_cS (rest := []) (st2 := [.int t58]) C (s_X0_firstOr e59) mk_X0_firstOr sm_X0_firstOr lk_X0_94 rfl rfl rfl dX0_fillWorld_109 (Nat.le_of_ble_eq_true rfl) ⟨Nat.le_of_ble_eq_true rfl, Nat.le_of_ble_eq_true rfl⟩ ⟨Nat.le_of_ble_eq_true rfl, Nat.le_of_ble_eq_true rfl⟩ ?_
          refine r_istore (lv' := [(9, .int t58), (10, .int t47), (8, .int t47), (7, .int t41), (0, .ref v0), (1, .ref v1), (2, .int v2), (3, .int v3), (4, .int t1), (5, .int t15), (6, .int t18)]) C dX0_fillWorld_112 (by decide) rfl rfl ?_
          refine r_iload C dX0_fillWorld_114 rfl ?_
          refine r_iload C dX0_fillWorld_116 rfl ?_
          refine r_icmp_ne (tgt := 126) C dX0_fillWorld_118 (by decide) (fun c60 => ?_) (fun c60 => ?_)
          · rw [if_neg c60] at hf1
            refine r_iload C dX0_fillWorld_126 rfl ?_
            refine r_iconst (v := 1) C dX0_fillWorld_128 (by decide) ?_
            refine r_ixor C dX0_fillWorld_129 ?_
            refine r_subk [4, 5, 6, 7, 8, 9, 10, 3, 2, 0] (lv' := [(0, .ref v0), (1, .ref v1), (2, .int v2), (3, .int v3), (4, .int t1), (5, .int t15), (6, .int t18), (7, .int t41), (8, .int t47), (9, .int t58)]) rfl ?_
            exact J130 h19 t18 t41 t47 t58 (t58 ^^^ (1 : Int32)) hf1
          · rw [if_pos c60] at hf1
            refine r_iload C dX0_fillWorld_121 rfl ?_
            refine r_goto (tgt := 130) C dX0_fillWorld_123 (by decide) ?_
            refine r_subk [4, 5, 6, 7, 8, 9, 10, 3, 2, 0] (lv' := [(0, .ref v0), (1, .ref v1), (2, .int v2), (3, .int v3), (4, .int t1), (5, .int t15), (6, .int t18), (7, .int t41), (8, .int t47), (9, .int t58)]) rfl ?_
            exact J130 h19 t18 t41 t47 t58 t41 hf1
  refine r_subk [3, 4, 5, 6, 2, 1, 0] (lv' := [(0, .ref v0), (1, .ref v1), (2, .int v2), (3, .int v3), (4, .int t1), (5, .int t15), (6, .int (0 : Int32))]) rfl ?_
  exact L43 wN (0 : Int32) h hl43
def f_X0_fillAnswers_j46 (h : aH) (v0 : Nat) (v1 : Nat) (v2 : Int32) (v3 : Int32) : Option ((Int32 × aH) ⊕ (aH)) := (some (v3 + (1 : Int32))).bind fun t4 => some (.inl (t4, h))
def f_X0_fillAnswers_b23 (v0 : Nat) (v1 : Nat) (v2 : Int32) (v3 : Int32) (h : aH) : Option ((Int32 × aH) ⊕ (aH)) := (gI h 1 v1 14).bind fun t5 => if t5 ≤ v3 then some (.inr h) else (ck h 1 v1).bind fun _ => (f_X1_canBe h v1 v3).bind fun t6 => if t6 = 0 then f_X0_fillAnswers_j46 h v0 v1 v2 v3 else (ck h 0 v0).bind fun _ => (f_X0_fillWorld h v0 v1 v2 v3).bind fun h7 => f_X0_fillAnswers_j46 h7 v0 v1 v2 v3
def f_X0_fillAnswers_l23 (v0 : Nat) (v1 : Nat) (v2 : Int32) (v3 : Int32) (h : aH) : Option (aH) := whileL wN (fun q : Int32 × aH => f_X0_fillAnswers_b23 v0 v1 v2 q.1 q.2) (v3, h)
def f_X0_fillAnswers_b7 (v0 : Nat) (v1 : Nat) (v2 : Int32) (h : aH) : Option ((Int32 × aH) ⊕ (aH)) := (gI h 1 v1 17).bind fun t2 => if t2 ≤ v2 then some (.inr h) else (ck h 0 v0).bind fun _ => (f_X0_gatherKnown h v0 v1 v2).bind fun h3 => (f_X0_fillAnswers_l23 v0 v1 v2 (0 : Int32) h3).bind fun h8 => (some (v2 + (1 : Int32))).bind fun t9 => some (.inl (t9, h8))
def f_X0_fillAnswers_l7 (v0 : Nat) (v1 : Nat) (v2 : Int32) (h : aH) : Option (aH) := whileL wN (fun q : Int32 × aH => f_X0_fillAnswers_b7 v0 v1 q.1 q.2) (v2, h)
def f_X0_fillAnswers (h : aH) (v0 : Nat) (v1 : Nat) : Option (aH) := (ck h 0 v0).bind fun _ => (f_X0_relateSayings h v0 v1).bind fun h1 => (f_X0_fillAnswers_l7 v0 v1 (0 : Int32) h1).bind fun h10 => some h10
theorem s_X0_fillAnswers {h : aH} {v0 : Nat} {v1 : Nat} {out : aH} (hf0 : f_X0_fillAnswers h v0 v1 = some out) : EV 3 yX0_fillAnswers cX0_fillAnswers 4 none h [.ref v0, .ref v1] none out 0 0 := by
  refine EV.of (own := RX0) (lv0 := [(0, .ref v0), (1, .ref v1)]) (by decide +kernel) rfl rfl (Nat.le_of_ble_eq_true rfl) ?_
  intro p l e s m args below meth c D cA B Hb C hin
  unfold f_X0_fillAnswers at hf0
  refine r_aload_n C dX0_fillAnswers_0 rfl ?_
  refine r_aload_n C dX0_fillAnswers_1 rfl ?_
  obtain ⟨u2, e1, hf0⟩ := ob hf0
  obtain ⟨h3, e4, hf0⟩ := ob hf0
  refine r_cV (ci := 0) (rest := []) (st2 := []) C (s_X0_relateSayings e4) mk_X0_relateSayings rfl (ck_k e1) (by decide) im_X0_relateSayings sl_X0_relateSayings lk_X0_28 rfl rfl rfl dX0_fillAnswers_2 (Nat.le_of_ble_eq_true rfl) ⟨Nat.le_of_ble_eq_true rfl, Nat.le_of_ble_eq_true rfl⟩ ⟨Nat.le_of_ble_eq_true rfl, Nat.le_of_ble_eq_true rfl⟩ ?_
  refine r_iconst (v := 0) C dX0_fillAnswers_5 (by decide) ?_
  refine r_istore_n (lv' := [(2, .int (0 : Int32)), (0, .ref v0), (1, .ref v1)]) C dX0_fillAnswers_6 (by decide) rfl rfl ?_
  obtain ⟨y5, hl7, hf0⟩ := ob hf0
  have L7 : ∀ (n : Nat) (t6 : Int32) (h7 : aH), whileL n (fun q : Int32 × aH => f_X0_fillAnswers_b7 v0 v1 q.1 q.2) (t6, h7) = some y5 → gW p l e (rmO 3 0 0) s m args below meth c (MQ below (eQ D cA B Hb out none) args s 0 0 (fun q => B ≤ q)) D cA B Hb 4 h7 7 [(0, .ref v0), (1, .ref v1), (2, .int t6)] [] 0 0 := by
    intro n
    induction n with
    | zero => intro t6 h7 hz; cases hz
    | succ n ih7 =>
      intro t6 h7 hz
      obtain ⟨x7, hf1, hk7⟩ := wl hz
      replace hf1 : f_X0_fillAnswers_b7 v0 v1 t6 h7 = some x7 := hf1
      unfold f_X0_fillAnswers_b7 at hf1
      refine r_iload_n C dX0_fillAnswers_7 rfl ?_
      refine r_aload_n C dX0_fillAnswers_8 rfl ?_
      obtain ⟨t8, e9, hf1⟩ := ob hf1
      refine r_getI C fk_X0_32 rfl dX0_fillAnswers_9 e9 ?_
      refine r_icmp_ge (tgt := 58) C dX0_fillAnswers_12 (by decide) (fun c10 => ?_) (fun c10 => ?_)
      · rw [if_pos c10] at hf1
        obtain rfl := so hf1
        obtain rfl := so (show some h7 = some y5 from hk7)
        obtain rfl := so hf0
        exact r_vret C dX0_fillAnswers_58
      · rw [if_neg c10] at hf1
        refine r_aload_n C dX0_fillAnswers_15 rfl ?_
        refine r_aload_n C dX0_fillAnswers_16 rfl ?_
        refine r_iload_n C dX0_fillAnswers_17 rfl ?_
        obtain ⟨u12, e11, hf1⟩ := ob hf1
        obtain ⟨h13, e14, hf1⟩ := ob hf1
        refine r_cV (ci := 0) (rest := []) (st2 := []) C (s_X0_gatherKnown e14) mk_X0_gatherKnown rfl (ck_k e11) (by decide) im_X0_gatherKnown sl_X0_gatherKnown lk_X0_37 rfl rfl rfl dX0_fillAnswers_18 (Nat.le_of_ble_eq_true rfl) ⟨Nat.le_of_ble_eq_true rfl, Nat.le_of_ble_eq_true rfl⟩ ⟨Nat.le_of_ble_eq_true rfl, Nat.le_of_ble_eq_true rfl⟩ ?_
        refine r_iconst (v := 0) C dX0_fillAnswers_21 (by decide) ?_
        refine r_istore_n (lv' := [(3, .int (0 : Int32)), (0, .ref v0), (1, .ref v1), (2, .int t6)]) C dX0_fillAnswers_22 (by decide) rfl rfl ?_
        obtain ⟨y15, hl23, hf1⟩ := ob hf1
        have L23 : ∀ (n : Nat) (t16 : Int32) (h17 : aH), whileL n (fun q : Int32 × aH => f_X0_fillAnswers_b23 v0 v1 t6 q.1 q.2) (t16, h17) = some y15 → gW p l e (rmO 3 0 0) s m args below meth c (MQ below (eQ D cA B Hb out none) args s 0 0 (fun q => B ≤ q)) D cA B Hb 4 h17 23 [(0, .ref v0), (1, .ref v1), (2, .int t6), (3, .int t16)] [] 0 0 := by
          intro n
          induction n with
          | zero => intro t16 h17 hz; cases hz
          | succ n ih23 =>
            intro t16 h17 hz
            obtain ⟨x23, hf2, hk23⟩ := wl hz
            replace hf2 : f_X0_fillAnswers_b23 v0 v1 t6 t16 h17 = some x23 := hf2
            unfold f_X0_fillAnswers_b23 at hf2
            have J46 : ∀ (h18 : aH) (t19 : Int32), f_X0_fillAnswers_j46 h18 v0 v1 t6 t19 = some x23 → gW p l e (rmO 3 0 0) s m args below meth c (MQ below (eQ D cA B Hb out none) args s 0 0 (fun q => B ≤ q)) D cA B Hb 4 h18 46 [(0, .ref v0), (1, .ref v1), (2, .int t6), (3, .int t19)] [] 0 0 := by
              intro h18 t19 hf2
              unfold f_X0_fillAnswers_j46 at hf2
              obtain ⟨t20, e21, hf2⟩ := ob hf2
              refine r_iinc (lv' := [(3, .int t20), (0, .ref v0), (1, .ref v1), (2, .int t6)]) C dX0_fillAnswers_46 rfl e21 (by decide) rfl ?_
              refine r_goto (tgt := 23) C dX0_fillAnswers_49 (by decide) ?_
              obtain rfl := so hf2
              refine r_subk [1, 2, 3, 0] (lv' := [(0, .ref v0), (1, .ref v1), (2, .int t6), (3, .int t20)]) rfl ?_
              exact ih23 t20 h18 hk23
            refine r_iload_n C dX0_fillAnswers_23 rfl ?_
            refine r_aload_n C dX0_fillAnswers_24 rfl ?_
            obtain ⟨t22, e23, hf2⟩ := ob hf2
            refine r_getI C fk_X0_41 rfl dX0_fillAnswers_25 e23 ?_
            refine r_icmp_ge (tgt := 52) C dX0_fillAnswers_28 (by decide) (fun c24 => ?_) (fun c24 => ?_)
            · rw [if_pos c24] at hf2
              obtain rfl := so hf2
              obtain rfl := so (show some h17 = some y15 from hk23)
              obtain ⟨t25, e26, hf1⟩ := ob hf1
              refine r_iinc (lv' := [(2, .int t25), (0, .ref v0), (1, .ref v1), (3, .int t16)]) C dX0_fillAnswers_52 rfl e26 (by decide) rfl ?_
              refine r_goto (tgt := 7) C dX0_fillAnswers_55 (by decide) ?_
              obtain rfl := so hf1
              refine r_subk [1, 2, 0] (lv' := [(0, .ref v0), (1, .ref v1), (2, .int t25)]) rfl ?_
              exact ih7 t25 h17 hk7
            · rw [if_neg c24] at hf2
              refine r_aload_n C dX0_fillAnswers_31 rfl ?_
              refine r_iload_n C dX0_fillAnswers_32 rfl ?_
              obtain ⟨u28, e27, hf2⟩ := ob hf2
              obtain ⟨t29, e30, hf2⟩ := ob hf2
              refine r_cV (ci := 1) (rest := []) (st2 := [.int t29]) C (s_X1_canBe e30) mk_X1_canBe rfl (ck_k e27) (by decide) im_X1_canBe sl_X1_canBe lk_X0_44 rfl rfl rfl dX0_fillAnswers_33 (Nat.le_of_ble_eq_true rfl) ⟨Nat.le_of_ble_eq_true rfl, Nat.le_of_ble_eq_true rfl⟩ ⟨Nat.le_of_ble_eq_true rfl, Nat.le_of_ble_eq_true rfl⟩ ?_
              refine r_ifeq (tgt := 46) C dX0_fillAnswers_36 (by decide) (fun c31 => ?_) (fun c31 => ?_)
              · rw [if_pos c31] at hf2
                exact J46 h17 t16 hf2
              · rw [if_neg c31] at hf2
                refine r_aload_n C dX0_fillAnswers_39 rfl ?_
                refine r_aload_n C dX0_fillAnswers_40 rfl ?_
                refine r_iload_n C dX0_fillAnswers_41 rfl ?_
                refine r_iload_n C dX0_fillAnswers_42 rfl ?_
                obtain ⟨u33, e32, hf2⟩ := ob hf2
                obtain ⟨h34, e35, hf2⟩ := ob hf2
                refine r_cV (ci := 0) (rest := []) (st2 := []) C (s_X0_fillWorld e35) mk_X0_fillWorld rfl (ck_k e32) (by decide) im_X0_fillWorld sl_X0_fillWorld lk_X0_48 rfl rfl rfl dX0_fillAnswers_43 (Nat.le_of_ble_eq_true rfl) ⟨Nat.le_of_ble_eq_true rfl, Nat.le_of_ble_eq_true rfl⟩ ⟨Nat.le_of_ble_eq_true rfl, Nat.le_of_ble_eq_true rfl⟩ ?_
                exact J46 h34 t16 hf2
        refine r_subk [1, 2, 3, 0] (lv' := [(0, .ref v0), (1, .ref v1), (2, .int t6), (3, .int (0 : Int32))]) rfl ?_
        exact L23 wN (0 : Int32) h13 hl23
  refine r_subk [1, 2, 0] (lv' := [(0, .ref v0), (1, .ref v1), (2, .int (0 : Int32))]) rfl ?_
  exact L7 wN (0 : Int32) h3 hl7
def f_X1_clear (h : aH) (v0 : Nat) : Option (aH) := (gR h 1 v0 0).bind fun t1 => (pI h 7 t1 3 (0 : Int32)).bind fun h2 => (pI h2 1 v0 12 (0 : Int32)).bind fun h3 => (pI h3 1 v0 13 (0 : Int32)).bind fun h4 => (pI h4 1 v0 16 (0 : Int32)).bind fun h5 => (pI h5 1 v0 17 (0 : Int32)).bind fun h6 => (pI h6 1 v0 14 (1 : Int32)).bind fun h7 => (pI h7 1 v0 15 (1 : Int32)).bind fun h8 => (gR h8 1 v0 5).bind fun t9 => (sI h8 t9 (0 : Int32) (1 : Int32)).bind fun h10 => (gR h10 1 v0 6).bind fun t11 => (sI h10 t11 (0 : Int32) (0 : Int32)).bind fun h12 => (pI h12 1 v0 18 (65535 : Int32)).bind fun h13 => (gR h13 1 v0 8).bind fun t14 => (f_J7_fill_53178 h13 t14 (0 : Int32)).bind fun h15 => (gR h15 1 v0 9).bind fun t16 => (f_J7_fill_53178 h15 t16 (0 : Int32)).bind fun h17 => (gR h17 1 v0 10).bind fun t18 => (f_J7_fill_53178 h17 t18 (0 : Int32)).bind fun h19 => some h19
theorem s_X1_clear {h : aH} {v0 : Nat} {out : aH} (hf0 : f_X1_clear h v0 = some out) : EV 1 yX1_clear cX1_clear 1 none h [.ref v0] none out 0 0 := by
  refine EV.of (own := RX1) (lv0 := [(0, .ref v0)]) (by decide +kernel) rfl rfl (Nat.le_of_ble_eq_true rfl) ?_
  intro p l e s m args below meth c D cA B Hb C hin
  unfold f_X1_clear at hf0
  refine r_aload_n C dX1_clear_0 rfl ?_
  obtain ⟨t1, e2, hf0⟩ := ob hf0
  refine r_getR C fk_X1_12 rfl dX1_clear_1 e2 ?_
  refine r_iconst (v := 0) C dX1_clear_4 (by decide) ?_
  obtain ⟨h3, e4, hf0⟩ := ob hf0
  refine r_putI C fk_X1_55 dX1_clear_5 e4 ?_
  refine r_aload_n C dX1_clear_8 rfl ?_
  refine r_iconst (v := 0) C dX1_clear_9 (by decide) ?_
  obtain ⟨h5, e6, hf0⟩ := ob hf0
  refine r_putI C fk_X1_59 dX1_clear_10 e6 ?_
  refine r_aload_n C dX1_clear_13 rfl ?_
  refine r_iconst (v := 0) C dX1_clear_14 (by decide) ?_
  obtain ⟨h7, e8, hf0⟩ := ob hf0
  refine r_putI C fk_X1_62 dX1_clear_15 e8 ?_
  refine r_aload_n C dX1_clear_18 rfl ?_
  refine r_iconst (v := 0) C dX1_clear_19 (by decide) ?_
  obtain ⟨h9, e10, hf0⟩ := ob hf0
  refine r_putI C fk_X1_65 dX1_clear_20 e10 ?_
  refine r_aload_n C dX1_clear_23 rfl ?_
  refine r_iconst (v := 0) C dX1_clear_24 (by decide) ?_
  obtain ⟨h11, e12, hf0⟩ := ob hf0
  refine r_putI C fk_X1_68 dX1_clear_25 e12 ?_
  refine r_aload_n C dX1_clear_28 rfl ?_
  refine r_iconst (v := 1) C dX1_clear_29 (by decide) ?_
  obtain ⟨h13, e14, hf0⟩ := ob hf0
  refine r_putI C fk_X1_71 dX1_clear_30 e14 ?_
  refine r_aload_n C dX1_clear_33 rfl ?_
  refine r_iconst (v := 1) C dX1_clear_34 (by decide) ?_
  obtain ⟨h15, e16, hf0⟩ := ob hf0
  refine r_putI C fk_X1_74 dX1_clear_35 e16 ?_
  refine r_aload_n C dX1_clear_38 rfl ?_
  obtain ⟨t17, e18, hf0⟩ := ob hf0
  refine r_getR C fk_X1_31 rfl dX1_clear_39 e18 ?_
  refine r_iconst (v := 0) C dX1_clear_42 (by decide) ?_
  refine r_iconst (v := 1) C dX1_clear_43 (by decide) ?_
  obtain ⟨h19, e20, hf0⟩ := ob hf0
  refine r_stI C dX1_clear_44 e20 ?_
  refine r_aload_n C dX1_clear_45 rfl ?_
  obtain ⟨t21, e22, hf0⟩ := ob hf0
  refine r_getR C fk_X1_34 rfl dX1_clear_46 e22 ?_
  refine r_iconst (v := 0) C dX1_clear_49 (by decide) ?_
  refine r_iconst (v := 0) C dX1_clear_50 (by decide) ?_
  obtain ⟨h23, e24, hf0⟩ := ob hf0
  refine r_stI C dX1_clear_51 e24 ?_
  refine r_aload_n C dX1_clear_52 rfl ?_
  refine r_ldc (v := 65535) C dX1_clear_53 cn_X1_77 ?_
  obtain ⟨h25, e26, hf0⟩ := ob hf0
  refine r_putI C fk_X1_78 dX1_clear_55 e26 ?_
  refine r_aload_n C dX1_clear_58 rfl ?_
  obtain ⟨t27, e28, hf0⟩ := ob hf0
  refine r_getR C fk_X1_40 rfl dX1_clear_59 e28 ?_
  refine r_iconst (v := 0) C dX1_clear_62 (by decide) ?_
  obtain ⟨h29, e30, hf0⟩ := ob hf0
  refine r_cS (rest := []) (st2 := []) C (s_J7_fill_53178 e30) mk_J7_fill_53178 sm_J7_fill_53178 lk_X1_81 rfl rfl rfl dX1_clear_63 (Nat.le_of_ble_eq_true rfl) ⟨Nat.le_of_ble_eq_true rfl, Nat.le_of_ble_eq_true rfl⟩ ⟨Nat.le_of_ble_eq_true rfl, Nat.le_of_ble_eq_true rfl⟩ ?_
  refine r_aload_n C dX1_clear_66 rfl ?_
  obtain ⟨t31, e32, hf0⟩ := ob hf0
  refine r_getR C fk_X1_43 rfl dX1_clear_67 e32 ?_
  refine r_iconst (v := 0) C dX1_clear_70 (by decide) ?_
  obtain ⟨h33, e34, hf0⟩ := ob hf0
  refine r_cS (rest := []) (st2 := []) C (s_J7_fill_53178 e34) mk_J7_fill_53178 sm_J7_fill_53178 lk_X1_81 rfl rfl rfl dX1_clear_71 (Nat.le_of_ble_eq_true rfl) ⟨Nat.le_of_ble_eq_true rfl, Nat.le_of_ble_eq_true rfl⟩ ⟨Nat.le_of_ble_eq_true rfl, Nat.le_of_ble_eq_true rfl⟩ ?_
  refine r_aload_n C dX1_clear_74 rfl ?_
  obtain ⟨t35, e36, hf0⟩ := ob hf0
  refine r_getR C fk_X1_46 rfl dX1_clear_75 e36 ?_
  refine r_iconst (v := 0) C dX1_clear_78 (by decide) ?_
  obtain ⟨h37, e38, hf0⟩ := ob hf0
  refine r_cS (rest := []) (st2 := []) C (s_J7_fill_53178 e38) mk_J7_fill_53178 sm_J7_fill_53178 lk_X1_81 rfl rfl rfl dX1_clear_79 (Nat.le_of_ble_eq_true rfl) ⟨Nat.le_of_ble_eq_true rfl, Nat.le_of_ble_eq_true rfl⟩ ⟨Nat.le_of_ble_eq_true rfl, Nat.le_of_ble_eq_true rfl⟩ ?_
  obtain rfl := so hf0
  exact r_vret C dX1_clear_82
def f_X1_weigh_b8 (h : aH) (v0 : Nat) (v1 : Int32) (v2 : Nat) (v3 : Int32) (v4 : Int32) (v5 : Int32) : Option ((Int32 × Int32 × Int32) ⊕ ((Unit) ⊕ (Int32))) := (gI h 1 v0 12).bind fun t1 => if t1 ≤ v5 then some (.inr (.inr v3)) else (ck h 1 v0).bind fun _ => (f_X1_valueIn h v0 v1 v5).bind fun t2 => if t2 < 0 then some (.inr (.inl ())) else (lI h v2 t2).bind fun t3 => if (t3 &&& v4) = 0 then (some (v4 ||| ((1 : Int32) <<< (t2 &&& 31)))).bind fun t4 => (gR h 1 v0 4).bind fun t5 => (lI h t5 t2).bind fun t6 => (some (v3 * t6)).bind fun t7 => (some (v5 + (1 : Int32))).bind fun t8 => some (.inl (t7, t4, t8)) else some (.inr (.inl ()))
def f_X1_weigh_l8 (h : aH) (v0 : Nat) (v1 : Int32) (v2 : Nat) (v3 : Int32) (v4 : Int32) (v5 : Int32) : Option ((Unit) ⊕ (Int32)) := whileL wN (fun q : Int32 × Int32 × Int32 => f_X1_weigh_b8 h v0 v1 v2 q.1 q.2.1 q.2.2) (v3, v4, v5)
def f_X1_weigh (h : aH) (v0 : Nat) (v1 : Int32) (v2 : Nat) : Option (Int32) := (f_X1_weigh_l8 h v0 v1 v2 (1 : Int32) (0 : Int32) (0 : Int32)).bind fun e => match e with | .inl _ => some (0 : Int32) | .inr t9 => some t9
theorem s_X1_weigh {h : aH} {v0 : Nat} {v1 : Int32} {v2 : Nat} {out : Int32} (hf0 : f_X1_weigh h v0 v1 v2 = some out) : EV 1 yX1_weigh cX1_weigh 7 (some .int) h [.ref v0, .int v1, .ref v2] (some (.int out)) h 0 0 := by
  refine EV.of (own := RX1) (lv0 := [(0, .ref v0), (1, .int v1), (2, .ref v2)]) (by decide +kernel) rfl rfl (Nat.le_of_ble_eq_true rfl) ?_
  intro p l e s m args below meth c D cA B Hb C hin
  unfold f_X1_weigh at hf0
  refine r_iconst (v := 1) C dX1_weigh_0 (by decide) ?_
  refine r_istore_n (lv' := [(3, .int (1 : Int32)), (0, .ref v0), (1, .int v1), (2, .ref v2)]) C dX1_weigh_1 (by decide) rfl rfl ?_
  refine r_iconst (v := 0) C dX1_weigh_2 (by decide) ?_
  refine r_istore (lv' := [(4, .int (0 : Int32)), (3, .int (1 : Int32)), (0, .ref v0), (1, .int v1), (2, .ref v2)]) C dX1_weigh_3 (by decide) rfl rfl ?_
  refine r_iconst (v := 0) C dX1_weigh_5 (by decide) ?_
  refine r_istore (lv' := [(5, .int (0 : Int32)), (4, .int (0 : Int32)), (3, .int (1 : Int32)), (0, .ref v0), (1, .int v1), (2, .ref v2)]) C dX1_weigh_6 (by decide) rfl rfl ?_
  obtain ⟨y1, hl8, hf0⟩ := ob hf0
  have L8 : ∀ (n : Nat) (t2 : Int32) (t3 : Int32) (t4 : Int32), whileL n (fun q : Int32 × Int32 × Int32 => f_X1_weigh_b8 h v0 v1 v2 q.1 q.2.1 q.2.2) (t2, t3, t4) = some y1 → gW p l e (rmO 1 0 0) s m args below meth c (MQ below (eQ D cA B Hb h (some (.int out))) args s 0 0 (fun q => B ≤ q)) D cA B Hb 7 h 8 [(0, .ref v0), (1, .int v1), (2, .ref v2), (3, .int t2), (4, .int t3), (5, .int t4)] [] 0 0 := by
    intro n
    induction n with
    | zero => intro t2 t3 t4 hz; cases hz
    | succ n ih8 =>
      intro t2 t3 t4 hz
      obtain ⟨x8, hf1, hk8⟩ := wl hz
      replace hf1 : f_X1_weigh_b8 h v0 v1 v2 t2 t3 t4 = some x8 := hf1
      unfold f_X1_weigh_b8 at hf1
      refine r_iload C dX1_weigh_8 rfl ?_
      refine r_aload_n C dX1_weigh_10 rfl ?_
      obtain ⟨t5, e6, hf1⟩ := ob hf1
      refine r_getI C fk_X1_59 rfl dX1_weigh_11 e6 ?_
      refine r_icmp_ge (tgt := 68) C dX1_weigh_14 (by decide) (fun c7 => ?_) (fun c7 => ?_)
      · rw [if_pos c7] at hf1
        obtain rfl := so hf1
        obtain rfl := so (show some (.inr t2 : (Unit) ⊕ (Int32)) = some y1 from hk8)
        dsimp only at hf0
        refine r_iload_n C dX1_weigh_68 rfl ?_
        obtain rfl := so hf0
        exact r_iret C dX1_weigh_69
      · rw [if_neg c7] at hf1
        refine r_aload_n C dX1_weigh_17 rfl ?_
        refine r_iload_n C dX1_weigh_18 rfl ?_
        refine r_iload C dX1_weigh_19 rfl ?_
        obtain ⟨u9, e8, hf1⟩ := ob hf1
        obtain ⟨t10, e11, hf1⟩ := ob hf1
        refine r_cV (ci := 1) (rest := []) (st2 := [.int t10]) C (s_X1_valueIn e11) mk_X1_valueIn rfl (ck_k e8) (by decide) im_X1_valueIn sl_X1_valueIn lk_X1_97 rfl rfl rfl dX1_weigh_21 (Nat.le_of_ble_eq_true rfl) ⟨Nat.le_of_ble_eq_true rfl, Nat.le_of_ble_eq_true rfl⟩ ⟨Nat.le_of_ble_eq_true rfl, Nat.le_of_ble_eq_true rfl⟩ ?_
        refine r_istore (lv' := [(6, .int t10), (0, .ref v0), (1, .int v1), (2, .ref v2), (3, .int t2), (4, .int t3), (5, .int t4)]) C dX1_weigh_24 (by decide) rfl rfl ?_
        refine r_iload C dX1_weigh_26 rfl ?_
        refine r_iflt (tgt := 41) C dX1_weigh_28 (by decide) (fun c12 => ?_) (fun c12 => ?_)
        · rw [if_pos c12] at hf1
          obtain rfl := so hf1
          obtain rfl := so (show some (.inl () : (Unit) ⊕ (Int32)) = some y1 from hk8)
          dsimp only at hf0
          refine r_iconst (v := 0) C dX1_weigh_41 (by decide) ?_
          obtain rfl := so hf0
          exact r_iret C dX1_weigh_42
        · rw [if_neg c12] at hf1
          refine r_aload_n C dX1_weigh_31 rfl ?_
          refine r_iload C dX1_weigh_32 rfl ?_
          obtain ⟨t13, e14, hf1⟩ := ob hf1
          refine r_ldI C dX1_weigh_34 e14 ?_
          refine r_iload C dX1_weigh_35 rfl ?_
          refine r_iand C dX1_weigh_37 ?_
          refine r_ifeq (tgt := 43) C dX1_weigh_38 (by decide) (fun c15 => ?_) (fun c15 => ?_)
          · rw [if_pos c15] at hf1
            refine r_iload C dX1_weigh_43 rfl ?_
            refine r_iconst (v := 1) C dX1_weigh_45 (by decide) ?_
            refine r_iload C dX1_weigh_46 rfl ?_
            refine r_ishl C dX1_weigh_48 ?_
            refine r_ior C dX1_weigh_49 ?_
            obtain ⟨t16, e17, hf1⟩ := ob hf1
            refine r_istore (lv' := [(4, .int t16), (6, .int t10), (0, .ref v0), (1, .int v1), (2, .ref v2), (3, .int t2), (5, .int t4)]) C dX1_weigh_50 (by decide) e17 rfl ?_
            refine r_iload_n C dX1_weigh_52 rfl ?_
            refine r_aload_n C dX1_weigh_53 rfl ?_
            obtain ⟨t18, e19, hf1⟩ := ob hf1
            refine r_getR C fk_X1_28 rfl dX1_weigh_54 e19 ?_
            refine r_iload C dX1_weigh_57 rfl ?_
            obtain ⟨t20, e21, hf1⟩ := ob hf1
            refine r_ldI C dX1_weigh_59 e21 ?_
            refine r_imul C dX1_weigh_60 ?_
            obtain ⟨t22, e23, hf1⟩ := ob hf1
            refine r_istore_n (lv' := [(3, .int t22), (4, .int t16), (6, .int t10), (0, .ref v0), (1, .int v1), (2, .ref v2), (5, .int t4)]) C dX1_weigh_61 (by decide) e23 rfl ?_
            obtain ⟨t24, e25, hf1⟩ := ob hf1
            refine r_iinc (lv' := [(5, .int t24), (3, .int t22), (4, .int t16), (6, .int t10), (0, .ref v0), (1, .int v1), (2, .ref v2)]) C dX1_weigh_62 rfl e25 (by decide) rfl ?_
            refine r_goto (tgt := 8) C dX1_weigh_65 (by decide) ?_
            obtain rfl := so hf1
            refine r_subk [4, 5, 6, 1, 2, 0] (lv' := [(0, .ref v0), (1, .int v1), (2, .ref v2), (3, .int t22), (4, .int t16), (5, .int t24)]) rfl ?_
            exact ih8 t22 t16 t24 hk8
          · rw [if_neg c15] at hf1
            obtain rfl := so hf1
            obtain rfl := so (show some (.inl () : (Unit) ⊕ (Int32)) = some y1 from hk8)
            dsimp only at hf0
            refine r_iconst (v := 0) C dX1_weigh_41 (by decide) ?_
            obtain rfl := so hf0
            exact r_iret C dX1_weigh_42
  refine r_subk [3, 4, 5, 2, 1, 0] (lv' := [(0, .ref v0), (1, .int v1), (2, .ref v2), (3, .int (1 : Int32)), (4, .int (0 : Int32)), (5, .int (0 : Int32))]) rfl ?_
  exact L8 wN (1 : Int32) (0 : Int32) (0 : Int32) hl8
def f_X1_makeWorlds_b9 (v0 : Nat) (v1 : Nat) (v2 : Int32) (v3 : Int32) (h : aH) : Option ((Int32 × Int32 × aH) ⊕ (Int32 × aH)) := if v3 < 0 then some (.inr (v2, h)) else (gR h 1 v0 2).bind fun t3 => (sI h t3 v3 v2).bind fun h4 => (gR h4 1 v0 1).bind fun t5 => (lI h4 t5 (v3 + (1 : Int32))).bind fun t6 => (gR h4 1 v0 1).bind fun t7 => (lI h4 t7 v3).bind fun t8 => (some (v2 * (t6 - t8))).bind fun t9 => (some (v3 + (-1 : Int32))).bind fun t10 => some (.inl (t9, t10, h4))
def f_X1_makeWorlds_l9 (v0 : Nat) (v1 : Nat) (v2 : Int32) (v3 : Int32) (h : aH) : Option (Int32 × aH) := whileL wN (fun q : Int32 × Int32 × aH => f_X1_makeWorlds_b9 v0 v1 q.1 q.2.1 q.2.2) (v2, v3, h)
def f_X1_makeWorlds_j108 (h : aH) (v0 : Nat) (v1 : Nat) (v3 : Int32) : Option ((Int32 × aH) ⊕ (aH)) := (some (v3 + (1 : Int32))).bind fun t15 => some (.inl (t15, h))
def f_X1_makeWorlds_b62 (v0 : Nat) (v1 : Nat) (v3 : Int32) (h : aH) : Option ((Int32 × aH) ⊕ (aH)) := (gI h 1 v0 14).bind fun t16 => if t16 ≤ v3 then some (.inr h) else (gR h 1 v0 6).bind fun t17 => (sI h t17 v3 (0 : Int32)).bind fun h18 => (gR h18 1 v0 5).bind fun t19 => (ck h18 1 v0).bind fun _ => (f_X1_weigh h18 v0 v3 v1).bind fun t20 => (sI h18 t19 v3 t20).bind fun h21 => (gR h21 1 v0 5).bind fun t22 => (lI h21 t22 v3).bind fun t23 => if t23 ≤ 0 then f_X1_makeWorlds_j108 h21 v0 v1 v3 else (gI h21 1 v0 15).bind fun t24 => (pI h21 1 v0 15 (t24 + (1 : Int32))).bind fun h25 => f_X1_makeWorlds_j108 h25 v0 v1 v3
def f_X1_makeWorlds_l62 (v0 : Nat) (v1 : Nat) (v3 : Int32) (h : aH) : Option (aH) := whileL wN (fun q : Int32 × aH => f_X1_makeWorlds_b62 v0 v1 q.1 q.2) (v3, h)
def f_X1_makeWorlds (h : aH) (v0 : Nat) (v1 : Nat) : Option (aH) := (gI h 1 v0 12).bind fun t1 => (some (t1 - (1 : Int32))).bind fun t2 => bd2 (f_X1_makeWorlds_l9 v0 v1 (1 : Int32) t2 h) fun t11 h12 => (pI h12 1 v0 14 (mnI t11 (256 : Int32))).bind fun h13 => (pI h13 1 v0 15 (0 : Int32)).bind fun h14 => (f_X1_makeWorlds_l62 v0 v1 (0 : Int32) h14).bind fun h26 => some h26
theorem s_X1_makeWorlds {h : aH} {v0 : Nat} {v1 : Nat} {out : aH} (hf0 : f_X1_makeWorlds h v0 v1 = some out) : EV 2 yX1_makeWorlds cX1_makeWorlds 4 none h [.ref v0, .ref v1] none out 0 0 := by
  refine EV.of (own := RX1) (lv0 := [(0, .ref v0), (1, .ref v1)]) (by decide +kernel) rfl rfl (Nat.le_of_ble_eq_true rfl) ?_
  intro p l e s m args below meth c D cA B Hb C hin
  unfold f_X1_makeWorlds at hf0
  refine r_iconst (v := 1) C dX1_makeWorlds_0 (by decide) ?_
  refine r_istore_n (lv' := [(2, .int (1 : Int32)), (0, .ref v0), (1, .ref v1)]) C dX1_makeWorlds_1 (by decide) rfl rfl ?_
  refine r_aload_n C dX1_makeWorlds_2 rfl ?_
  obtain ⟨t1, e2, hf0⟩ := ob hf0
  refine r_getI C fk_X1_59 rfl dX1_makeWorlds_3 e2 ?_
  refine r_iconst (v := 1) C dX1_makeWorlds_6 (by decide) ?_
  refine r_isub C dX1_makeWorlds_7 ?_
  obtain ⟨t3, e4, hf0⟩ := ob hf0
  refine r_istore_n (lv' := [(3, .int t3), (2, .int (1 : Int32)), (0, .ref v0), (1, .ref v1)]) C dX1_makeWorlds_8 (by decide) e4 rfl ?_
  obtain ⟨y5, y6, hl9, hf0⟩ := ob2 hf0
  have L9 : ∀ (n : Nat) (t7 : Int32) (t8 : Int32) (h9 : aH), whileL n (fun q : Int32 × Int32 × aH => f_X1_makeWorlds_b9 v0 v1 q.1 q.2.1 q.2.2) (t7, t8, h9) = some (y5, y6) → gW p l e (rmO 2 0 0) s m args below meth c (MQ below (eQ D cA B Hb out none) args s 0 0 (fun q => B ≤ q)) D cA B Hb 4 h9 9 [(0, .ref v0), (1, .ref v1), (2, .int t7), (3, .int t8)] [] 0 0 := by
    intro n
    induction n with
    | zero => intro t7 t8 h9 hz; cases hz
    | succ n ih9 =>
      intro t7 t8 h9 hz
      obtain ⟨x9, hf1, hk9⟩ := wl hz
      replace hf1 : f_X1_makeWorlds_b9 v0 v1 t7 t8 h9 = some x9 := hf1
      unfold f_X1_makeWorlds_b9 at hf1
      refine r_iload_n C dX1_makeWorlds_9 rfl ?_
      refine r_iflt (tgt := 44) C dX1_makeWorlds_10 (by decide) (fun c10 => ?_) (fun c10 => ?_)
      · rw [if_pos c10] at hf1
        obtain rfl := so hf1
        obtain ⟨rfl, rfl⟩ := so2 (show some (t7, h9) = some (y5, y6) from hk9)
        refine r_aload_n C dX1_makeWorlds_44 rfl ?_
        refine r_iload_n C dX1_makeWorlds_45 rfl ?_
        refine r_sipush (v := 256) C dX1_makeWorlds_46 (by decide) ?_
        refine r_mmin C lk_X1_87 dX1_makeWorlds_49 ⟨Nat.le_of_ble_eq_true rfl, Nat.le_of_ble_eq_true rfl⟩ (Nat.le_of_ble_eq_true rfl) ⟨Nat.le_of_ble_eq_true rfl, Nat.le_of_ble_eq_true rfl⟩ ?_
        obtain ⟨h11, e12, hf0⟩ := ob hf0
        refine r_putI C fk_X1_71 dX1_makeWorlds_52 e12 ?_
        refine r_aload_n C dX1_makeWorlds_55 rfl ?_
        refine r_iconst (v := 0) C dX1_makeWorlds_56 (by decide) ?_
        obtain ⟨h13, e14, hf0⟩ := ob hf0
        refine r_putI C fk_X1_74 dX1_makeWorlds_57 e14 ?_
        refine r_iconst (v := 0) C dX1_makeWorlds_60 (by decide) ?_
        refine r_istore_n (lv' := [(3, .int (0 : Int32)), (0, .ref v0), (1, .ref v1), (2, .int t7)]) C dX1_makeWorlds_61 (by decide) rfl rfl ?_
        obtain ⟨y15, hl62, hf0⟩ := ob hf0
        have L62 : ∀ (n : Nat) (t16 : Int32) (h17 : aH), whileL n (fun q : Int32 × aH => f_X1_makeWorlds_b62 v0 v1 q.1 q.2) (t16, h17) = some y15 → gW p l e (rmO 2 0 0) s m args below meth c (MQ below (eQ D cA B Hb out none) args s 0 0 (fun q => B ≤ q)) D cA B Hb 4 h17 62 [(0, .ref v0), (1, .ref v1), (3, .int t16)] [] 0 0 := by
          intro n
          induction n with
          | zero => intro t16 h17 hz; cases hz
          | succ n ih62 =>
            intro t16 h17 hz
            obtain ⟨x62, hf1, hk62⟩ := wl hz
            replace hf1 : f_X1_makeWorlds_b62 v0 v1 t16 h17 = some x62 := hf1
            unfold f_X1_makeWorlds_b62 at hf1
            have J108 : ∀ (h18 : aH) (t19 : Int32), f_X1_makeWorlds_j108 h18 v0 v1 t19 = some x62 → gW p l e (rmO 2 0 0) s m args below meth c (MQ below (eQ D cA B Hb out none) args s 0 0 (fun q => B ≤ q)) D cA B Hb 4 h18 108 [(0, .ref v0), (1, .ref v1), (3, .int t19)] [] 0 0 := by
              intro h18 t19 hf1
              unfold f_X1_makeWorlds_j108 at hf1
              obtain ⟨t20, e21, hf1⟩ := ob hf1
              refine r_iinc (lv' := [(3, .int t20), (0, .ref v0), (1, .ref v1)]) C dX1_makeWorlds_108 rfl e21 (by decide) rfl ?_
              refine r_goto (tgt := 62) C dX1_makeWorlds_111 (by decide) ?_
              obtain rfl := so hf1
              refine r_subk [1, 2, 0] (lv' := [(0, .ref v0), (1, .ref v1), (3, .int t20)]) rfl ?_
              exact ih62 t20 h18 hk62
            refine r_iload_n C dX1_makeWorlds_62 rfl ?_
            refine r_aload_n C dX1_makeWorlds_63 rfl ?_
            obtain ⟨t22, e23, hf1⟩ := ob hf1
            refine r_getI C fk_X1_71 rfl dX1_makeWorlds_64 e23 ?_
            refine r_icmp_ge (tgt := 114) C dX1_makeWorlds_67 (by decide) (fun c24 => ?_) (fun c24 => ?_)
            · rw [if_pos c24] at hf1
              obtain rfl := so hf1
              obtain rfl := so (show some h17 = some y15 from hk62)
              obtain rfl := so hf0
              exact r_vret C dX1_makeWorlds_114
            · rw [if_neg c24] at hf1
              refine r_aload_n C dX1_makeWorlds_70 rfl ?_
              obtain ⟨t25, e26, hf1⟩ := ob hf1
              refine r_getR C fk_X1_34 rfl dX1_makeWorlds_71 e26 ?_
              refine r_iload_n C dX1_makeWorlds_74 rfl ?_
              refine r_iconst (v := 0) C dX1_makeWorlds_75 (by decide) ?_
              obtain ⟨h27, e28, hf1⟩ := ob hf1
              refine r_stI C dX1_makeWorlds_76 e28 ?_
              refine r_aload_n C dX1_makeWorlds_77 rfl ?_
              obtain ⟨t29, e30, hf1⟩ := ob hf1
              refine r_getR C fk_X1_31 rfl dX1_makeWorlds_78 e30 ?_
              refine r_iload_n C dX1_makeWorlds_81 rfl ?_
              refine r_aload_n C dX1_makeWorlds_82 rfl ?_
              refine r_iload_n C dX1_makeWorlds_83 rfl ?_
              refine r_aload_n C dX1_makeWorlds_84 rfl ?_
              obtain ⟨u32, e31, hf1⟩ := ob hf1
              obtain ⟨t33, e34, hf1⟩ := ob hf1
              refine r_cV (ci := 1) (rest := [.int t16, .ref t29]) (st2 := [.int t33, .int t16, .ref t29]) C (s_X1_weigh e34) mk_X1_weigh rfl (ck_k e31) (by decide) im_X1_weigh sl_X1_weigh lk_X1_93 rfl rfl rfl dX1_makeWorlds_85 (Nat.le_of_ble_eq_true rfl) ⟨Nat.le_of_ble_eq_true rfl, Nat.le_of_ble_eq_true rfl⟩ ⟨Nat.le_of_ble_eq_true rfl, Nat.le_of_ble_eq_true rfl⟩ ?_
              obtain ⟨h35, e36, hf1⟩ := ob hf1
              refine r_stI C dX1_makeWorlds_88 e36 ?_
              refine r_aload_n C dX1_makeWorlds_89 rfl ?_
              obtain ⟨t37, e38, hf1⟩ := ob hf1
              refine r_getR C fk_X1_31 rfl dX1_makeWorlds_90 e38 ?_
              refine r_iload_n C dX1_makeWorlds_93 rfl ?_
              obtain ⟨t39, e40, hf1⟩ := ob hf1
              refine r_ldI C dX1_makeWorlds_94 e40 ?_
              refine r_ifle (tgt := 108) C dX1_makeWorlds_95 (by decide) (fun c41 => ?_) (fun c41 => ?_)
              · rw [if_pos c41] at hf1
                exact J108 h35 t16 hf1
              · rw [if_neg c41] at hf1
                refine r_aload_n C dX1_makeWorlds_98 rfl ?_
                refine r_dup C dX1_makeWorlds_99 rfl ?_
                obtain ⟨t42, e43, hf1⟩ := ob hf1
                refine r_getI C fk_X1_74 rfl dX1_makeWorlds_100 e43 ?_
                refine r_iconst (v := 1) C dX1_makeWorlds_103 (by decide) ?_
                refine r_iadd C dX1_makeWorlds_104 ?_
                obtain ⟨h44, e45, hf1⟩ := ob hf1
                refine r_putI C fk_X1_74 dX1_makeWorlds_105 e45 ?_
                exact J108 h44 t16 hf1
        refine r_subk [1, 2, 0] (lv' := [(0, .ref v0), (1, .ref v1), (3, .int (0 : Int32))]) rfl ?_
        exact L62 wN (0 : Int32) h13 hl62
      · rw [if_neg c10] at hf1
        refine r_aload_n C dX1_makeWorlds_13 rfl ?_
        obtain ⟨t46, e47, hf1⟩ := ob hf1
        refine r_getR C fk_X1_22 rfl dX1_makeWorlds_14 e47 ?_
        refine r_iload_n C dX1_makeWorlds_17 rfl ?_
        refine r_iload_n C dX1_makeWorlds_18 rfl ?_
        obtain ⟨h48, e49, hf1⟩ := ob hf1
        refine r_stI C dX1_makeWorlds_19 e49 ?_
        refine r_iload_n C dX1_makeWorlds_20 rfl ?_
        refine r_aload_n C dX1_makeWorlds_21 rfl ?_
        obtain ⟨t50, e51, hf1⟩ := ob hf1
        refine r_getR C fk_X1_18 rfl dX1_makeWorlds_22 e51 ?_
        refine r_iload_n C dX1_makeWorlds_25 rfl ?_
        refine r_iconst (v := 1) C dX1_makeWorlds_26 (by decide) ?_
        refine r_iadd C dX1_makeWorlds_27 ?_
        obtain ⟨t52, e53, hf1⟩ := ob hf1
        refine r_ldI C dX1_makeWorlds_28 e53 ?_
        refine r_aload_n C dX1_makeWorlds_29 rfl ?_
        obtain ⟨t54, e55, hf1⟩ := ob hf1
        refine r_getR C fk_X1_18 rfl dX1_makeWorlds_30 e55 ?_
        refine r_iload_n C dX1_makeWorlds_33 rfl ?_
        obtain ⟨t56, e57, hf1⟩ := ob hf1
        refine r_ldI C dX1_makeWorlds_34 e57 ?_
        refine r_isub C dX1_makeWorlds_35 ?_
        refine r_imul C dX1_makeWorlds_36 ?_
        obtain ⟨t58, e59, hf1⟩ := ob hf1
        refine r_istore_n (lv' := [(2, .int t58), (0, .ref v0), (1, .ref v1), (3, .int t8)]) C dX1_makeWorlds_37 (by decide) e59 rfl ?_
        obtain ⟨t60, e61, hf1⟩ := ob hf1
        refine r_iinc (lv' := [(3, .int t60), (2, .int t58), (0, .ref v0), (1, .ref v1)]) C dX1_makeWorlds_38 rfl e61 (by decide) rfl ?_
        refine r_goto (tgt := 9) C dX1_makeWorlds_41 (by decide) ?_
        obtain rfl := so hf1
        refine r_subk [2, 3, 1, 0] (lv' := [(0, .ref v0), (1, .ref v1), (2, .int t58), (3, .int t60)]) rfl ?_
        exact ih9 t58 t60 h48 hk9
  refine r_subk [2, 3, 1, 0] (lv' := [(0, .ref v0), (1, .ref v1), (2, .int (1 : Int32)), (3, .int t3)]) rfl ?_
  exact L9 wN (1 : Int32) t3 h hl9
def f_X1_packedAnswers (h : aH) (v0 : Nat) (v1 : Int32) (v2 : Int32) (v3 : Int32) : Option (Int32) := (gR h 1 v0 11).bind fun t1 => (lI h t1 ((((v1 * (12 : Int32)) + v2) * (256 : Int32)) + v3)).bind fun t2 => some t2
theorem s_X1_packedAnswers {h : aH} {v0 : Nat} {v1 : Int32} {v2 : Int32} {v3 : Int32} {out : Int32} (hf0 : f_X1_packedAnswers h v0 v1 v2 v3 = some out) : EV 0 yX1_packedAnswers cX1_packedAnswers 4 (some .int) h [.ref v0, .int v1, .int v2, .int v3] (some (.int out)) h 0 0 := by
  refine EV.of (own := RX1) (lv0 := [(0, .ref v0), (1, .int v1), (2, .int v2), (3, .int v3)]) (by decide +kernel) rfl rfl (Nat.le_of_ble_eq_true rfl) ?_
  intro p l e s m args below meth c D cA B Hb C hin
  unfold f_X1_packedAnswers at hf0
  refine r_aload_n C dX1_packedAnswers_0 rfl ?_
  obtain ⟨t1, e2, hf0⟩ := ob hf0
  refine r_getR C fk_X1_49 rfl dX1_packedAnswers_1 e2 ?_
  refine r_iload_n C dX1_packedAnswers_4 rfl ?_
  refine r_bipush (v := 12) C dX1_packedAnswers_5 (by decide) ?_
  refine r_imul C dX1_packedAnswers_7 ?_
  refine r_iload_n C dX1_packedAnswers_8 rfl ?_
  refine r_iadd C dX1_packedAnswers_9 ?_
  refine r_sipush (v := 256) C dX1_packedAnswers_10 (by decide) ?_
  refine r_imul C dX1_packedAnswers_13 ?_
  refine r_iload_n C dX1_packedAnswers_14 rfl ?_
  refine r_iadd C dX1_packedAnswers_15 ?_
  obtain ⟨t3, e4, hf0⟩ := ob hf0
  refine r_ldI C dX1_packedAnswers_16 e4 ?_
  obtain rfl := so hf0
  exact r_iret C dX1_packedAnswers_17
def f_X1_answerOf (h : aH) (v0 : Int32) (v1 : Int32) : Option (Int32) := some ((v0 >>> ((v1 * (5 : Int32)) &&& 31)) &&& (31 : Int32))
theorem s_X1_answerOf {h : aH} {v0 : Int32} {v1 : Int32} {out : Int32} (hf0 : f_X1_answerOf h v0 v1 = some out) : EV 0 yX1_answerOf cX1_answerOf 2 (some .int) h [.int v0, .int v1] (some (.int out)) h 0 0 := by
  refine EV.of (own := RX1) (lv0 := [(0, .int v0), (1, .int v1)]) (by decide +kernel) rfl rfl (Nat.le_of_ble_eq_true rfl) ?_
  intro p l e s m args below meth c D cA B Hb C hin
  unfold f_X1_answerOf at hf0
  refine r_iload_n C dX1_answerOf_0 rfl ?_
  refine r_iload_n C dX1_answerOf_1 rfl ?_
  refine r_iconst (v := 5) C dX1_answerOf_2 (by decide) ?_
  refine r_imul C dX1_answerOf_3 ?_
  refine r_ishr C dX1_answerOf_4 ?_
  refine r_bipush (v := 31) C dX1_answerOf_5 (by decide) ?_
  refine r_iand C dX1_answerOf_7 ?_
  obtain rfl := so hf0
  exact r_iret C dX1_answerOf_8
def f_X1_kindsAnswering_j28 (h : aH) (v1 : Int32) (v2 : Int32) (v3 : Int32) (v4 : Int32) : Option ((Int32 × Int32 × Int32) ⊕ (Int32)) := (some (v3 >>> ((5 : Int32) &&& 31))).bind fun t1 => (some (v4 + (1 : Int32))).bind fun t2 => some (.inl (v2, t1, t2))
def f_X1_kindsAnswering_b7 (h : aH) (v1 : Int32) (v2 : Int32) (v3 : Int32) (v4 : Int32) : Option ((Int32 × Int32 × Int32) ⊕ (Int32)) := if (4 : Int32) ≤ v4 then some (.inr v2) else if (v3 &&& (31 : Int32)) = v1 then (some (v2 ||| ((1 : Int32) <<< (v4 &&& 31)))).bind fun t3 => f_X1_kindsAnswering_j28 h v1 t3 v3 v4 else f_X1_kindsAnswering_j28 h v1 v2 v3 v4
def f_X1_kindsAnswering_l7 (h : aH) (v1 : Int32) (v2 : Int32) (v3 : Int32) (v4 : Int32) : Option (Int32) := whileL wN (fun q : Int32 × Int32 × Int32 => f_X1_kindsAnswering_b7 h v1 q.1 q.2.1 q.2.2) (v2, v3, v4)
def f_X1_kindsAnswering (h : aH) (v0 : Int32) (v1 : Int32) : Option (Int32) := (f_X1_kindsAnswering_l7 h v1 (0 : Int32) v0 (0 : Int32)).bind fun t4 => some t4
theorem s_X1_kindsAnswering {h : aH} {v0 : Int32} {v1 : Int32} {out : Int32} (hf0 : f_X1_kindsAnswering h v0 v1 = some out) : EV 0 yX1_kindsAnswering cX1_kindsAnswering 5 (some .int) h [.int v0, .int v1] (some (.int out)) h 0 0 := by
  refine EV.of (own := RX1) (lv0 := [(0, .int v0), (1, .int v1)]) (by decide +kernel) rfl rfl (Nat.le_of_ble_eq_true rfl) ?_
  intro p l e s m args below meth c D cA B Hb C hin
  unfold f_X1_kindsAnswering at hf0
  refine r_iconst (v := 0) C dX1_kindsAnswering_0 (by decide) ?_
  refine r_istore_n (lv' := [(2, .int (0 : Int32)), (0, .int v0), (1, .int v1)]) C dX1_kindsAnswering_1 (by decide) rfl rfl ?_
  refine r_iload_n C dX1_kindsAnswering_2 rfl ?_
  refine r_istore_n (lv' := [(3, .int v0), (2, .int (0 : Int32)), (0, .int v0), (1, .int v1)]) C dX1_kindsAnswering_3 (by decide) rfl rfl ?_
  refine r_iconst (v := 0) C dX1_kindsAnswering_4 (by decide) ?_
  refine r_istore (lv' := [(4, .int (0 : Int32)), (3, .int v0), (2, .int (0 : Int32)), (0, .int v0), (1, .int v1)]) C dX1_kindsAnswering_5 (by decide) rfl rfl ?_
  obtain ⟨y1, hl7, hf0⟩ := ob hf0
  have L7 : ∀ (n : Nat) (t2 : Int32) (t3 : Int32) (t4 : Int32), whileL n (fun q : Int32 × Int32 × Int32 => f_X1_kindsAnswering_b7 h v1 q.1 q.2.1 q.2.2) (t2, t3, t4) = some y1 → gW p l e (rmO 0 0 0) s m args below meth c (MQ below (eQ D cA B Hb h (some (.int out))) args s 0 0 (fun q => B ≤ q)) D cA B Hb 5 h 7 [(1, .int v1), (2, .int t2), (3, .int t3), (4, .int t4)] [] 0 0 := by
    intro n
    induction n with
    | zero => intro t2 t3 t4 hz; cases hz
    | succ n ih7 =>
      intro t2 t3 t4 hz
      obtain ⟨x7, hf1, hk7⟩ := wl hz
      replace hf1 : f_X1_kindsAnswering_b7 h v1 t2 t3 t4 = some x7 := hf1
      unfold f_X1_kindsAnswering_b7 at hf1
      have J28 : ∀ (t5 : Int32) (t6 : Int32) (t7 : Int32), f_X1_kindsAnswering_j28 h v1 t5 t6 t7 = some x7 → gW p l e (rmO 0 0 0) s m args below meth c (MQ below (eQ D cA B Hb h (some (.int out))) args s 0 0 (fun q => B ≤ q)) D cA B Hb 5 h 28 [(1, .int v1), (2, .int t5), (3, .int t6), (4, .int t7)] [] 0 0 := by
        intro t5 t6 t7 hf1
        unfold f_X1_kindsAnswering_j28 at hf1
        refine r_iload_n C dX1_kindsAnswering_28 rfl ?_
        refine r_iconst (v := 5) C dX1_kindsAnswering_29 (by decide) ?_
        refine r_ishr C dX1_kindsAnswering_30 ?_
        obtain ⟨t8, e9, hf1⟩ := ob hf1
        refine r_istore_n (lv' := [(3, .int t8), (1, .int v1), (2, .int t5), (4, .int t7)]) C dX1_kindsAnswering_31 (by decide) e9 rfl ?_
        obtain ⟨t10, e11, hf1⟩ := ob hf1
        refine r_iinc (lv' := [(4, .int t10), (3, .int t8), (1, .int v1), (2, .int t5)]) C dX1_kindsAnswering_32 rfl e11 (by decide) rfl ?_
        refine r_goto (tgt := 7) C dX1_kindsAnswering_35 (by decide) ?_
        obtain rfl := so hf1
        refine r_subk [2, 3, 1, 0] (lv' := [(1, .int v1), (2, .int t5), (3, .int t8), (4, .int t10)]) rfl ?_
        exact ih7 t5 t8 t10 hk7
      refine r_iload C dX1_kindsAnswering_7 rfl ?_
      refine r_iconst (v := 4) C dX1_kindsAnswering_9 (by decide) ?_
      refine r_icmp_ge (tgt := 38) C dX1_kindsAnswering_10 (by decide) (fun c12 => ?_) (fun c12 => ?_)
      · rw [if_pos c12] at hf1
        obtain rfl := so hf1
        obtain rfl := so (show some t2 = some y1 from hk7)
        refine r_iload_n C dX1_kindsAnswering_38 rfl ?_
        obtain rfl := so hf0
        exact r_iret C dX1_kindsAnswering_39
      · rw [if_neg c12] at hf1
        refine r_iload_n C dX1_kindsAnswering_13 rfl ?_
        refine r_bipush (v := 31) C dX1_kindsAnswering_14 (by decide) ?_
        refine r_iand C dX1_kindsAnswering_16 ?_
        refine r_iload_n C dX1_kindsAnswering_17 rfl ?_
        refine r_icmp_ne (tgt := 28) C dX1_kindsAnswering_18 (by decide) (fun c13 => ?_) (fun c13 => ?_)
        · rw [if_neg c13] at hf1
          exact J28 t2 t3 t4 hf1
        · rw [if_pos c13] at hf1
          refine r_iload_n C dX1_kindsAnswering_21 rfl ?_
          refine r_iconst (v := 1) C dX1_kindsAnswering_22 (by decide) ?_
          refine r_iload C dX1_kindsAnswering_23 rfl ?_
          refine r_ishl C dX1_kindsAnswering_25 ?_
          refine r_ior C dX1_kindsAnswering_26 ?_
          obtain ⟨t14, e15, hf1⟩ := ob hf1
          refine r_istore_n (lv' := [(2, .int t14), (1, .int v1), (3, .int t3), (4, .int t4)]) C dX1_kindsAnswering_27 (by decide) e15 rfl ?_
          refine r_subk [1, 0, 2, 3] (lv' := [(1, .int v1), (2, .int t14), (3, .int t3), (4, .int t4)]) rfl ?_
          exact J28 t14 t3 t4 hf1
  refine r_subk [4, 2, 1, 0] (lv' := [(1, .int v1), (2, .int (0 : Int32)), (3, .int v0), (4, .int (0 : Int32))]) rfl ?_
  exact L7 wN (0 : Int32) v0 (0 : Int32) hl7
def f_X1_answersOf_j31 (h : aH) (v1 : Int32) (v2 : Int32) (v3 : Int32) (v4 : Int32) : Option ((Int32 × Int32 × Int32) ⊕ (Int32)) := (some (v3 >>> ((5 : Int32) &&& 31))).bind fun t1 => (some (v4 + (1 : Int32))).bind fun t2 => some (.inl (v2, t1, t2))
def f_X1_answersOf_b7 (h : aH) (v1 : Int32) (v2 : Int32) (v3 : Int32) (v4 : Int32) : Option ((Int32 × Int32 × Int32) ⊕ (Int32)) := if (4 : Int32) ≤ v4 then some (.inr v2) else if ((v1 >>> (v4 &&& 31)) &&& (1 : Int32)) = 0 then f_X1_answersOf_j31 h v1 v2 v3 v4 else (some (v2 ||| ((1 : Int32) <<< ((v3 &&& (31 : Int32)) &&& 31)))).bind fun t3 => f_X1_answersOf_j31 h v1 t3 v3 v4
def f_X1_answersOf_l7 (h : aH) (v1 : Int32) (v2 : Int32) (v3 : Int32) (v4 : Int32) : Option (Int32) := whileL wN (fun q : Int32 × Int32 × Int32 => f_X1_answersOf_b7 h v1 q.1 q.2.1 q.2.2) (v2, v3, v4)
def f_X1_answersOf (h : aH) (v0 : Int32) (v1 : Int32) : Option (Int32) := (f_X1_answersOf_l7 h v1 (0 : Int32) v0 (0 : Int32)).bind fun t4 => some t4
theorem s_X1_answersOf {h : aH} {v0 : Int32} {v1 : Int32} {out : Int32} (hf0 : f_X1_answersOf h v0 v1 = some out) : EV 0 yX1_answersOf cX1_answersOf 5 (some .int) h [.int v0, .int v1] (some (.int out)) h 0 0 := by
  refine EV.of (own := RX1) (lv0 := [(0, .int v0), (1, .int v1)]) (by decide +kernel) rfl rfl (Nat.le_of_ble_eq_true rfl) ?_
  intro p l e s m args below meth c D cA B Hb C hin
  unfold f_X1_answersOf at hf0
  refine r_iconst (v := 0) C dX1_answersOf_0 (by decide) ?_
  refine r_istore_n (lv' := [(2, .int (0 : Int32)), (0, .int v0), (1, .int v1)]) C dX1_answersOf_1 (by decide) rfl rfl ?_
  refine r_iload_n C dX1_answersOf_2 rfl ?_
  refine r_istore_n (lv' := [(3, .int v0), (2, .int (0 : Int32)), (0, .int v0), (1, .int v1)]) C dX1_answersOf_3 (by decide) rfl rfl ?_
  refine r_iconst (v := 0) C dX1_answersOf_4 (by decide) ?_
  refine r_istore (lv' := [(4, .int (0 : Int32)), (3, .int v0), (2, .int (0 : Int32)), (0, .int v0), (1, .int v1)]) C dX1_answersOf_5 (by decide) rfl rfl ?_
  obtain ⟨y1, hl7, hf0⟩ := ob hf0
  have L7 : ∀ (n : Nat) (t2 : Int32) (t3 : Int32) (t4 : Int32), whileL n (fun q : Int32 × Int32 × Int32 => f_X1_answersOf_b7 h v1 q.1 q.2.1 q.2.2) (t2, t3, t4) = some y1 → gW p l e (rmO 0 0 0) s m args below meth c (MQ below (eQ D cA B Hb h (some (.int out))) args s 0 0 (fun q => B ≤ q)) D cA B Hb 5 h 7 [(1, .int v1), (2, .int t2), (3, .int t3), (4, .int t4)] [] 0 0 := by
    intro n
    induction n with
    | zero => intro t2 t3 t4 hz; cases hz
    | succ n ih7 =>
      intro t2 t3 t4 hz
      obtain ⟨x7, hf1, hk7⟩ := wl hz
      replace hf1 : f_X1_answersOf_b7 h v1 t2 t3 t4 = some x7 := hf1
      unfold f_X1_answersOf_b7 at hf1
      have J31 : ∀ (t5 : Int32) (t6 : Int32) (t7 : Int32), f_X1_answersOf_j31 h v1 t5 t6 t7 = some x7 → gW p l e (rmO 0 0 0) s m args below meth c (MQ below (eQ D cA B Hb h (some (.int out))) args s 0 0 (fun q => B ≤ q)) D cA B Hb 5 h 31 [(1, .int v1), (2, .int t5), (3, .int t6), (4, .int t7)] [] 0 0 := by
        intro t5 t6 t7 hf1
        unfold f_X1_answersOf_j31 at hf1
        refine r_iload_n C dX1_answersOf_31 rfl ?_
        refine r_iconst (v := 5) C dX1_answersOf_32 (by decide) ?_
        refine r_ishr C dX1_answersOf_33 ?_
        obtain ⟨t8, e9, hf1⟩ := ob hf1
        refine r_istore_n (lv' := [(3, .int t8), (1, .int v1), (2, .int t5), (4, .int t7)]) C dX1_answersOf_34 (by decide) e9 rfl ?_
        obtain ⟨t10, e11, hf1⟩ := ob hf1
        refine r_iinc (lv' := [(4, .int t10), (3, .int t8), (1, .int v1), (2, .int t5)]) C dX1_answersOf_35 rfl e11 (by decide) rfl ?_
        refine r_goto (tgt := 7) C dX1_answersOf_38 (by decide) ?_
        obtain rfl := so hf1
        refine r_subk [2, 3, 1, 0] (lv' := [(1, .int v1), (2, .int t5), (3, .int t8), (4, .int t10)]) rfl ?_
        exact ih7 t5 t8 t10 hk7
      refine r_iload C dX1_answersOf_7 rfl ?_
      refine r_iconst (v := 4) C dX1_answersOf_9 (by decide) ?_
      refine r_icmp_ge (tgt := 41) C dX1_answersOf_10 (by decide) (fun c12 => ?_) (fun c12 => ?_)
      · rw [if_pos c12] at hf1
        obtain rfl := so hf1
        obtain rfl := so (show some t2 = some y1 from hk7)
        refine r_iload_n C dX1_answersOf_41 rfl ?_
        obtain rfl := so hf0
        exact r_iret C dX1_answersOf_42
      · rw [if_neg c12] at hf1
        refine r_iload_n C dX1_answersOf_13 rfl ?_
        refine r_iload C dX1_answersOf_14 rfl ?_
        refine r_ishr C dX1_answersOf_16 ?_
        refine r_iconst (v := 1) C dX1_answersOf_17 (by decide) ?_
        refine r_iand C dX1_answersOf_18 ?_
        refine r_ifeq (tgt := 31) C dX1_answersOf_19 (by decide) (fun c13 => ?_) (fun c13 => ?_)
        · rw [if_pos c13] at hf1
          exact J31 t2 t3 t4 hf1
        · rw [if_neg c13] at hf1
          refine r_iload_n C dX1_answersOf_22 rfl ?_
          refine r_iconst (v := 1) C dX1_answersOf_23 (by decide) ?_
          refine r_iload_n C dX1_answersOf_24 rfl ?_
          refine r_bipush (v := 31) C dX1_answersOf_25 (by decide) ?_
          refine r_iand C dX1_answersOf_27 ?_
          refine r_ishl C dX1_answersOf_28 ?_
          refine r_ior C dX1_answersOf_29 ?_
          obtain ⟨t14, e15, hf1⟩ := ob hf1
          refine r_istore_n (lv' := [(2, .int t14), (1, .int v1), (3, .int t3), (4, .int t4)]) C dX1_answersOf_30 (by decide) e15 rfl ?_
          refine r_subk [1, 0, 2, 3] (lv' := [(1, .int v1), (2, .int t14), (3, .int t3), (4, .int t4)]) rfl ?_
          exact J31 t14 t3 t4 hf1
  refine r_subk [4, 2, 1, 0] (lv' := [(1, .int v1), (2, .int (0 : Int32)), (3, .int v0), (4, .int (0 : Int32))]) rfl ?_
  exact L7 wN (0 : Int32) v0 (0 : Int32) hl7
def f_X4_refuseHere_j14 (h : aH) (v0 : Nat) (s0 : Nat) (s1 : Int32) : Option (Int32 × aH) := (pI h 4 s0 12 s1).bind fun h1 => (gR h1 4 v0 3).bind fun t2 => (gI h1 4 v0 9).bind fun t3 => (lI h1 t2 t3).bind fun t4 => (pI h1 4 v0 13 t4).bind fun h5 => some ((0 : Int32), h5)
def f_X4_refuseHere (h : aH) (v0 : Nat) (v1 : Int32) : Option (Int32 × aH) := (gI h 4 v0 10).bind fun t6 => if t6 = (1 : Int32) then f_X4_refuseHere_j14 h v0 v0 (1 : Int32) else f_X4_refuseHere_j14 h v0 v0 v1
theorem s_X4_refuseHere {h : aH} {v0 : Nat} {v1 : Int32} {out : Int32 × aH} (hf0 : f_X4_refuseHere h v0 v1 = some out) : EV 0 yX4_refuseHere cX4_refuseHere 2 (some .boolean) h [.ref v0, .int v1] (some (.int out.1)) out.2 0 0 := by
  refine EV.of (own := RX4) (lv0 := [(0, .ref v0), (1, .int v1)]) (by decide +kernel) rfl rfl (Nat.le_of_ble_eq_true rfl) ?_
  intro p l e s m args below meth c D cA B Hb C hin
  unfold f_X4_refuseHere at hf0
  have J14 : ∀ (h1 : aH) (t2 : Nat) (t3 : Nat) (t4 : Int32), f_X4_refuseHere_j14 h1 t2 t3 t4 = some out → gW p l e (rmO 0 0 0) s m args below meth c (MQ below (eQ D cA B Hb out.2 (some (.int out.1))) args s 0 0 (fun q => B ≤ q)) D cA B Hb 2 h1 14 [(0, .ref t2)] [.int t4, .ref t3] 0 0 := by
    intro h1 t2 t3 t4 hf0
    unfold f_X4_refuseHere_j14 at hf0
    obtain ⟨h5, e6, hf0⟩ := ob hf0
    refine r_putI C fk_X4_52 dX4_refuseHere_14 e6 ?_
    refine r_aload_n C dX4_refuseHere_17 rfl ?_
    refine r_aload_n C dX4_refuseHere_18 rfl ?_
    obtain ⟨t7, e8, hf0⟩ := ob hf0
    refine r_getR C fk_X4_23 rfl dX4_refuseHere_19 e8 ?_
    refine r_aload_n C dX4_refuseHere_22 rfl ?_
    obtain ⟨t9, e10, hf0⟩ := ob hf0
    refine r_getI C fk_X4_42 rfl dX4_refuseHere_23 e10 ?_
    obtain ⟨t11, e12, hf0⟩ := ob hf0
    refine r_ldI C dX4_refuseHere_26 e12 ?_
    obtain ⟨h13, e14, hf0⟩ := ob hf0
    refine r_putI C fk_X4_55 dX4_refuseHere_27 e14 ?_
    refine r_iconst (v := 0) C dX4_refuseHere_30 (by decide) ?_
    obtain rfl := so hf0
    exact r_zret C dX4_refuseHere_31 (Or.inl rfl)
  refine r_aload_n C dX4_refuseHere_0 rfl ?_
  refine r_aload_n C dX4_refuseHere_1 rfl ?_
  obtain ⟨t15, e16, hf0⟩ := ob hf0
  refine r_getI C fk_X4_45 rfl dX4_refuseHere_2 e16 ?_
  refine r_iconst (v := 1) C dX4_refuseHere_5 (by decide) ?_
  refine r_icmp_ne (tgt := 13) C dX4_refuseHere_6 (by decide) (fun c17 => ?_) (fun c17 => ?_)
  · rw [if_neg c17] at hf0
    refine r_iload_n C dX4_refuseHere_13 rfl ?_
    refine r_subk [0] (lv' := [(0, .ref v0)]) rfl ?_
    exact J14 h v0 v0 v1 hf0
  · rw [if_pos c17] at hf0
    refine r_iconst (v := 1) C dX4_refuseHere_9 (by decide) ?_
    refine r_goto (tgt := 14) C dX4_refuseHere_10 (by decide) ?_
    refine r_subk [0] (lv' := [(0, .ref v0)]) rfl ?_
    exact J14 h v0 v0 (1 : Int32) hf0
def f_X4_advance_j20 (h : aH) (v0 : Nat) : Option (aH) := (gR h 4 v0 2).bind fun t1 => (gI h 4 v0 9).bind fun t2 => (lI h t1 t2).bind fun t3 => (pI h 4 v0 10 t3).bind fun h4 => (gR h4 4 v0 5).bind fun t5 => (gI h4 4 v0 9).bind fun t6 => (lJ h4 t5 t6).bind fun t7 => (pJ h4 4 v0 11 t7).bind fun h8 => some h8
def f_X4_advance (h : aH) (v0 : Nat) : Option (aH) := (gI h 4 v0 9).bind fun t9 => if (900 : Int32) ≤ t9 then f_X4_advance_j20 h v0 else (gI h 4 v0 9).bind fun t10 => (pI h 4 v0 9 (t10 + (1 : Int32))).bind fun h11 => f_X4_advance_j20 h11 v0
theorem s_X4_advance {h : aH} {v0 : Nat} {out : aH} (hf0 : f_X4_advance h v0 = some out) : EV 0 yX4_advance cX4_advance 1 none h [.ref v0] none out 0 0 := by
  refine EV.of (own := RX4) (lv0 := [(0, .ref v0)]) (by decide +kernel) rfl rfl (Nat.le_of_ble_eq_true rfl) ?_
  intro p l e s m args below meth c D cA B Hb C hin
  unfold f_X4_advance at hf0
  have J20 : ∀ (h1 : aH) (t2 : Nat), f_X4_advance_j20 h1 t2 = some out → gW p l e (rmO 0 0 0) s m args below meth c (MQ below (eQ D cA B Hb out none) args s 0 0 (fun q => B ≤ q)) D cA B Hb 1 h1 20 [(0, .ref t2)] [] 0 0 := by
    intro h1 t2 hf0
    unfold f_X4_advance_j20 at hf0
    refine r_aload_n C dX4_advance_20 rfl ?_
    refine r_aload_n C dX4_advance_21 rfl ?_
    obtain ⟨t3, e4, hf0⟩ := ob hf0
    refine r_getR C fk_X4_19 rfl dX4_advance_22 e4 ?_
    refine r_aload_n C dX4_advance_25 rfl ?_
    obtain ⟨t5, e6, hf0⟩ := ob hf0
    refine r_getI C fk_X4_42 rfl dX4_advance_26 e6 ?_
    obtain ⟨t7, e8, hf0⟩ := ob hf0
    refine r_ldI C dX4_advance_29 e8 ?_
    obtain ⟨h9, e10, hf0⟩ := ob hf0
    refine r_putI C fk_X4_45 dX4_advance_30 e10 ?_
    refine r_aload_n C dX4_advance_33 rfl ?_
    refine r_aload_n C dX4_advance_34 rfl ?_
    obtain ⟨t11, e12, hf0⟩ := ob hf0
    refine r_getR C fk_X4_29 rfl dX4_advance_35 e12 ?_
    refine r_aload_n C dX4_advance_38 rfl ?_
    obtain ⟨t13, e14, hf0⟩ := ob hf0
    refine r_getI C fk_X4_42 rfl dX4_advance_39 e14 ?_
    obtain ⟨t15, e16, hf0⟩ := ob hf0
    refine r_ldJ C dX4_advance_42 e16 ?_
    obtain ⟨h17, e18, hf0⟩ := ob hf0
    refine r_putJ C fk_X4_48 dX4_advance_43 e18 ?_
    obtain rfl := so hf0
    exact r_vret C dX4_advance_46
  refine r_aload_n C dX4_advance_0 rfl ?_
  obtain ⟨t19, e20, hf0⟩ := ob hf0
  refine r_getI C fk_X4_42 rfl dX4_advance_1 e20 ?_
  refine r_sipush (v := 900) C dX4_advance_4 (by decide) ?_
  refine r_icmp_ge (tgt := 20) C dX4_advance_7 (by decide) (fun c21 => ?_) (fun c21 => ?_)
  · rw [if_pos c21] at hf0
    exact J20 h v0 hf0
  · rw [if_neg c21] at hf0
    refine r_aload_n C dX4_advance_10 rfl ?_
    refine r_dup C dX4_advance_11 rfl ?_
    obtain ⟨t22, e23, hf0⟩ := ob hf0
    refine r_getI C fk_X4_42 rfl dX4_advance_12 e23 ?_
    refine r_iconst (v := 1) C dX4_advance_15 (by decide) ?_
    refine r_iadd C dX4_advance_16 ?_
    obtain ⟨h24, e25, hf0⟩ := ob hf0
    refine r_putI C fk_X4_42 dX4_advance_17 e25 ?_
    exact J20 h24 v0 hf0
def f_X7_isTaken_b2 (h : aH) (v0 : Nat) (v1 : Int64) (v3 : Int32) : Option ((Int32) ⊕ ((Unit) ⊕ (Unit))) := (gI h 7 v0 3).bind fun t1 => if t1 ≤ v3 then some (.inr (.inr ())) else (gR h 7 v0 0).bind fun t2 => (lJ h t2 v3).bind fun t3 => if (lg_cmp t3 v1) = 0 then some (.inr (.inl ())) else (some (v3 + (1 : Int32))).bind fun t4 => some (.inl t4)
def f_X7_isTaken_l2 (h : aH) (v0 : Nat) (v1 : Int64) (v3 : Int32) : Option ((Unit) ⊕ (Unit)) := whileL wN (fun q : Int32 => f_X7_isTaken_b2 h v0 v1 q) v3
def f_X7_isTaken (h : aH) (v0 : Nat) (v1 : Int64) : Option (Int32) := (f_X7_isTaken_l2 h v0 v1 (0 : Int32)).bind fun e => match e with | .inl _ => some (1 : Int32) | .inr _ => some (0 : Int32)
theorem s_X7_isTaken {h : aH} {v0 : Nat} {v1 : Int64} {out : Int32} (hf0 : f_X7_isTaken h v0 v1 = some out) : EV 0 yX7_isTaken cX7_isTaken 4 (some .boolean) h [.ref v0, .long v1] (some (.int out)) h 0 0 := by
  refine EV.of (own := RX7) (lv0 := [(0, .ref v0), (1, .long v1)]) (by decide +kernel) rfl rfl (Nat.le_of_ble_eq_true rfl) ?_
  intro p l e s m args below meth c D cA B Hb C hin
  unfold f_X7_isTaken at hf0
  refine r_iconst (v := 0) C dX7_isTaken_0 (by decide) ?_
  refine r_istore_n (lv' := [(3, .int (0 : Int32)), (0, .ref v0), (1, .long v1)]) C dX7_isTaken_1 (by decide) rfl rfl ?_
  obtain ⟨y1, hl2, hf0⟩ := ob hf0
  have L2 : ∀ (n : Nat) (t2 : Int32), whileL n (fun q : Int32 => f_X7_isTaken_b2 h v0 v1 q) t2 = some y1 → gW p l e (rmO 0 0 0) s m args below meth c (MQ below (eQ D cA B Hb h (some (.int out))) args s 0 0 (fun q => B ≤ q)) D cA B Hb 4 h 2 [(0, .ref v0), (1, .long v1), (3, .int t2)] [] 0 0 := by
    intro n
    induction n with
    | zero => intro t2 hz; cases hz
    | succ n ih2 =>
      intro t2 hz
      obtain ⟨x2, hf1, hk2⟩ := wl hz
      replace hf1 : f_X7_isTaken_b2 h v0 v1 t2 = some x2 := hf1
      unfold f_X7_isTaken_b2 at hf1
      refine r_iload_n C dX7_isTaken_2 rfl ?_
      refine r_aload_n C dX7_isTaken_3 rfl ?_
      obtain ⟨t3, e4, hf1⟩ := ob hf1
      refine r_getI C fk_X7_22 rfl dX7_isTaken_4 e4 ?_
      refine r_icmp_ge (tgt := 29) C dX7_isTaken_7 (by decide) (fun c5 => ?_) (fun c5 => ?_)
      · rw [if_pos c5] at hf1
        obtain rfl := so hf1
        obtain rfl := so (show some (.inr () : (Unit) ⊕ (Unit)) = some y1 from hk2)
        dsimp only at hf0
        refine r_iconst (v := 0) C dX7_isTaken_29 (by decide) ?_
        obtain rfl := so hf0
        exact r_zret C dX7_isTaken_30 (Or.inl rfl)
      · rw [if_neg c5] at hf1
        refine r_aload_n C dX7_isTaken_10 rfl ?_
        obtain ⟨t6, e7, hf1⟩ := ob hf1
        refine r_getR C fk_X7_9 rfl dX7_isTaken_11 e7 ?_
        refine r_iload_n C dX7_isTaken_14 rfl ?_
        obtain ⟨t8, e9, hf1⟩ := ob hf1
        refine r_ldJ C dX7_isTaken_15 e9 ?_
        refine r_lload_n C dX7_isTaken_16 rfl ?_
        refine r_lcmp C dX7_isTaken_17 ?_
        refine r_ifne (tgt := 23) C dX7_isTaken_18 (by decide) (fun c10 => ?_) (fun c10 => ?_)
        · rw [if_neg c10] at hf1
          obtain ⟨t11, e12, hf1⟩ := ob hf1
          refine r_iinc (lv' := [(3, .int t11), (0, .ref v0), (1, .long v1)]) C dX7_isTaken_23 rfl e12 (by decide) rfl ?_
          refine r_goto (tgt := 2) C dX7_isTaken_26 (by decide) ?_
          obtain rfl := so hf1
          refine r_subk [1, 2, 0] (lv' := [(0, .ref v0), (1, .long v1), (3, .int t11)]) rfl ?_
          exact ih2 t11 hk2
        · rw [if_pos c10] at hf1
          obtain rfl := so hf1
          obtain rfl := so (show some (.inl () : (Unit) ⊕ (Unit)) = some y1 from hk2)
          dsimp only at hf0
          refine r_iconst (v := 1) C dX7_isTaken_21 (by decide) ?_
          obtain rfl := so hf0
          exact r_zret C dX7_isTaken_22 (Or.inr rfl)
  refine r_subk [1, 2, 0] (lv' := [(0, .ref v0), (1, .long v1), (3, .int (0 : Int32))]) rfl ?_
  exact L2 wN (0 : Int32) hl2
def f_X2_isNewName (h : aH) (v0 : Nat) : Option (Int32 × aH) := (gR h 2 v0 0).bind fun t1 => (gI h 4 t1 10).bind fun t2 => if t2 = (6 : Int32) then (gR h 2 v0 6).bind fun t3 => (gR h 1 t3 0).bind fun t4 => (gR h 2 v0 0).bind fun t5 => (gJ h 4 t5 11).bind fun t6 => (ck h 7 t4).bind fun _ => (f_X7_isTaken h t4 t6).bind fun t7 => if t7 = 0 then some ((1 : Int32), h) else (gR h 2 v0 0).bind fun t8 => (ck h 4 t8).bind fun _ => bd2 (f_X4_refuseHere h t8 (3 : Int32)) fun t9 h10 => if t9 = 0 then some ((0 : Int32), h10) else some ((1 : Int32), h10) else (gR h 2 v0 0).bind fun t11 => (ck h 4 t11).bind fun _ => bd2 (f_X4_refuseHere h t11 (2 : Int32)) fun t12 h13 => (rZ t12).bind fun t14 => some (t14, h13)
theorem s_X2_isNewName {h : aH} {v0 : Nat} {out : Int32 × aH} (hf0 : f_X2_isNewName h v0 = some out) : EV 1 yX2_isNewName cX2_isNewName 1 (some .boolean) h [.ref v0] (some (.int out.1)) out.2 0 0 := by
  refine EV.of (own := RX2) (lv0 := [(0, .ref v0)]) (by decide +kernel) rfl rfl (Nat.le_of_ble_eq_true rfl) ?_
  intro p l e s m args below meth c D cA B Hb C hin
  unfold f_X2_isNewName at hf0
  refine r_aload_n C dX2_isNewName_0 rfl ?_
  obtain ⟨t1, e2, hf0⟩ := ob hf0
  refine r_getR C fk_X2_36 rfl dX2_isNewName_1 e2 ?_
  obtain ⟨t3, e4, hf0⟩ := ob hf0
  refine r_getI C fk_X2_55 rfl dX2_isNewName_4 e4 ?_
  refine r_bipush (v := 6) C dX2_isNewName_7 (by decide) ?_
  refine r_icmp_eq (tgt := 21) C dX2_isNewName_9 (by decide) (fun c5 => ?_) (fun c5 => ?_)
  · rw [if_pos c5] at hf0
    refine r_aload_n C dX2_isNewName_21 rfl ?_
    obtain ⟨t6, e7, hf0⟩ := ob hf0
    refine r_getR C fk_X2_40 rfl dX2_isNewName_22 e7 ?_
    obtain ⟨t8, e9, hf0⟩ := ob hf0
    refine r_getR C fk_X2_116 rfl dX2_isNewName_25 e9 ?_
    refine r_aload_n C dX2_isNewName_28 rfl ?_
    obtain ⟨t10, e11, hf0⟩ := ob hf0
    refine r_getR C fk_X2_36 rfl dX2_isNewName_29 e11 ?_
    obtain ⟨t12, e13, hf0⟩ := ob hf0
    refine r_getJ C fk_X2_120 rfl dX2_isNewName_32 e13 ?_
    obtain ⟨u15, e14, hf0⟩ := ob hf0
    obtain ⟨t16, e17, hf0⟩ := ob hf0
    refine r_cV (ci := 7) (rest := []) (st2 := [.int t16]) C (s_X7_isTaken e17) mk_X7_isTaken rfl (ck_k e14) (by decide) im_X7_isTaken sl_X7_isTaken lk_X2_186 rfl rfl rfl dX2_isNewName_35 (Nat.le_of_ble_eq_true rfl) ⟨Nat.le_of_ble_eq_true rfl, Nat.le_of_ble_eq_true rfl⟩ ⟨Nat.le_of_ble_eq_true rfl, Nat.le_of_ble_eq_true rfl⟩ ?_
    refine r_ifeq (tgt := 52) C dX2_isNewName_38 (by decide) (fun c18 => ?_) (fun c18 => ?_)
    · rw [if_pos c18] at hf0
      refine r_iconst (v := 1) C dX2_isNewName_52 (by decide) ?_
      refine r_goto (tgt := 57) C dX2_isNewName_53 (by decide) ?_
      obtain rfl := so hf0
      exact r_zret C dX2_isNewName_57 (Or.inr rfl)
    · rw [if_neg c18] at hf0
      refine r_aload_n C dX2_isNewName_41 rfl ?_
      obtain ⟨t19, e20, hf0⟩ := ob hf0
      refine r_getR C fk_X2_36 rfl dX2_isNewName_42 e20 ?_
      refine r_iconst (v := 3) C dX2_isNewName_45 (by decide) ?_
      obtain ⟨u22, e21, hf0⟩ := ob hf0
      obtain ⟨t23, h24, e25, hf0⟩ := ob2 hf0
      refine r_cV (ci := 4) (rest := []) (st2 := [.int t23]) C (s_X4_refuseHere e25) mk_X4_refuseHere rfl (ck_k e21) (by decide) im_X4_refuseHere sl_X4_refuseHere lk_X2_74 rfl rfl rfl dX2_isNewName_46 (Nat.le_of_ble_eq_true rfl) ⟨Nat.le_of_ble_eq_true rfl, Nat.le_of_ble_eq_true rfl⟩ ⟨Nat.le_of_ble_eq_true rfl, Nat.le_of_ble_eq_true rfl⟩ ?_
      refine r_ifeq (tgt := 56) C dX2_isNewName_49 (by decide) (fun c26 => ?_) (fun c26 => ?_)
      · rw [if_pos c26] at hf0
        refine r_iconst (v := 0) C dX2_isNewName_56 (by decide) ?_
        obtain rfl := so hf0
        exact r_zret C dX2_isNewName_57 (Or.inl rfl)
      · rw [if_neg c26] at hf0
        refine r_iconst (v := 1) C dX2_isNewName_52 (by decide) ?_
        refine r_goto (tgt := 57) C dX2_isNewName_53 (by decide) ?_
        obtain rfl := so hf0
        exact r_zret C dX2_isNewName_57 (Or.inr rfl)
  · rw [if_neg c5] at hf0
    refine r_aload_n C dX2_isNewName_12 rfl ?_
    obtain ⟨t27, e28, hf0⟩ := ob hf0
    refine r_getR C fk_X2_36 rfl dX2_isNewName_13 e28 ?_
    refine r_iconst (v := 2) C dX2_isNewName_16 (by decide) ?_
    obtain ⟨u30, e29, hf0⟩ := ob hf0
    obtain ⟨t31, h32, e33, hf0⟩ := ob2 hf0
    refine r_cV (ci := 4) (rest := []) (st2 := [.int t31]) C (s_X4_refuseHere e33) mk_X4_refuseHere rfl (ck_k e29) (by decide) im_X4_refuseHere sl_X4_refuseHere lk_X2_74 rfl rfl rfl dX2_isNewName_17 (Nat.le_of_ble_eq_true rfl) ⟨Nat.le_of_ble_eq_true rfl, Nat.le_of_ble_eq_true rfl⟩ ⟨Nat.le_of_ble_eq_true rfl, Nat.le_of_ble_eq_true rfl⟩ ?_
    obtain ⟨t34, e35, hf0⟩ := ob hf0
    obtain ⟨rfl, e35z⟩ := rZ_k e35
    obtain rfl := so hf0
    exact r_zret C dX2_isNewName_20 e35z
def f_X7_add (h : aH) (v0 : Nat) (v1 : Int64) (v3 : Int32) (v4 : Int32) : Option (aH) := (gI h 7 v0 3).bind fun t1 => if (44 : Int32) ≤ t1 then some h else (gR h 7 v0 0).bind fun t2 => (gI h 7 v0 3).bind fun t3 => (sJ h t2 t3 v1).bind fun h4 => (gR h4 7 v0 1).bind fun t5 => (gI h4 7 v0 3).bind fun t6 => (sI h4 t5 t6 v3).bind fun h7 => (gR h7 7 v0 2).bind fun t8 => (gI h7 7 v0 3).bind fun t9 => (sI h7 t8 t9 v4).bind fun h10 => (gI h10 7 v0 3).bind fun t11 => (pI h10 7 v0 3 (t11 + (1 : Int32))).bind fun h12 => some h12
theorem s_X7_add {h : aH} {v0 : Nat} {v1 : Int64} {v3 : Int32} {v4 : Int32} {out : aH} (hf0 : f_X7_add h v0 v1 v3 v4 = some out) : EV 0 yX7_add cX7_add 5 none h [.ref v0, .long v1, .int v3, .int v4] none out 0 0 := by
  refine EV.of (own := RX7) (lv0 := [(0, .ref v0), (1, .long v1), (3, .int v3), (4, .int v4)]) (by decide +kernel) rfl rfl (Nat.le_of_ble_eq_true rfl) ?_
  intro p l e s m args below meth c D cA B Hb C hin
  unfold f_X7_add at hf0
  refine r_aload_n C dX7_add_0 rfl ?_
  obtain ⟨t1, e2, hf0⟩ := ob hf0
  refine r_getI C fk_X7_22 rfl dX7_add_1 e2 ?_
  refine r_bipush (v := 44) C dX7_add_4 (by decide) ?_
  refine r_icmp_ge (tgt := 50) C dX7_add_6 (by decide) (fun c3 => ?_) (fun c3 => ?_)
  · rw [if_pos c3] at hf0
    obtain rfl := so hf0
    exact r_vret C dX7_add_50
  · rw [if_neg c3] at hf0
    refine r_aload_n C dX7_add_9 rfl ?_
    obtain ⟨t4, e5, hf0⟩ := ob hf0
    refine r_getR C fk_X7_9 rfl dX7_add_10 e5 ?_
    refine r_aload_n C dX7_add_13 rfl ?_
    obtain ⟨t6, e7, hf0⟩ := ob hf0
    refine r_getI C fk_X7_22 rfl dX7_add_14 e7 ?_
    refine r_lload_n C dX7_add_17 rfl ?_
    obtain ⟨h8, e9, hf0⟩ := ob hf0
    refine r_stJ C dX7_add_18 e9 ?_
    refine r_aload_n C dX7_add_19 rfl ?_
    obtain ⟨t10, e11, hf0⟩ := ob hf0
    refine r_getR C fk_X7_15 rfl dX7_add_20 e11 ?_
    refine r_aload_n C dX7_add_23 rfl ?_
    obtain ⟨t12, e13, hf0⟩ := ob hf0
    refine r_getI C fk_X7_22 rfl dX7_add_24 e13 ?_
    refine r_iload_n C dX7_add_27 rfl ?_
    obtain ⟨h14, e15, hf0⟩ := ob hf0
    refine r_stI C dX7_add_28 e15 ?_
    refine r_aload_n C dX7_add_29 rfl ?_
    obtain ⟨t16, e17, hf0⟩ := ob hf0
    refine r_getR C fk_X7_19 rfl dX7_add_30 e17 ?_
    refine r_aload_n C dX7_add_33 rfl ?_
    obtain ⟨t18, e19, hf0⟩ := ob hf0
    refine r_getI C fk_X7_22 rfl dX7_add_34 e19 ?_
    refine r_iload C dX7_add_37 rfl ?_
    obtain ⟨h20, e21, hf0⟩ := ob hf0
    refine r_stI C dX7_add_39 e21 ?_
    refine r_aload_n C dX7_add_40 rfl ?_
    refine r_dup C dX7_add_41 rfl ?_
    obtain ⟨t22, e23, hf0⟩ := ob hf0
    refine r_getI C fk_X7_22 rfl dX7_add_42 e23 ?_
    refine r_iconst (v := 1) C dX7_add_45 (by decide) ?_
    refine r_iadd C dX7_add_46 ?_
    obtain ⟨h24, e25, hf0⟩ := ob hf0
    refine r_putI C fk_X7_22 dX7_add_47 e25 ?_
    obtain rfl := so hf0
    exact r_vret C dX7_add_50
def f_X2_takeNewName (h : aH) (v0 : Nat) (v1 : Int32) (v2 : Int32) : Option (Int32 × aH) := (ck h 2 v0).bind fun _ => bd2 (f_X2_isNewName h v0) fun t1 h2 => if t1 = 0 then some ((0 : Int32), h2) else (gR h2 2 v0 6).bind fun t3 => (gR h2 1 t3 0).bind fun t4 => (gR h2 2 v0 0).bind fun t5 => (gJ h2 4 t5 11).bind fun t6 => (ck h2 7 t4).bind fun _ => (f_X7_add h2 t4 t6 v1 v2).bind fun h7 => (gR h7 2 v0 0).bind fun t8 => (ck h7 4 t8).bind fun _ => (f_X4_advance h7 t8).bind fun h9 => some ((1 : Int32), h9)
theorem s_X2_takeNewName {h : aH} {v0 : Nat} {v1 : Int32} {v2 : Int32} {out : Int32 × aH} (hf0 : f_X2_takeNewName h v0 v1 v2 = some out) : EV 2 yX2_takeNewName cX2_takeNewName 3 (some .boolean) h [.ref v0, .int v1, .int v2] (some (.int out.1)) out.2 0 0 := by
  refine EV.of (own := RX2) (lv0 := [(0, .ref v0), (1, .int v1), (2, .int v2)]) (by decide +kernel) rfl rfl (Nat.le_of_ble_eq_true rfl) ?_
  intro p l e s m args below meth c D cA B Hb C hin
  unfold f_X2_takeNewName at hf0
  refine r_aload_n C dX2_takeNewName_0 rfl ?_
  obtain ⟨u2, e1, hf0⟩ := ob hf0
  obtain ⟨t3, h4, e5, hf0⟩ := ob2 hf0
  refine r_cV (ci := 2) (rest := []) (st2 := [.int t3]) C (s_X2_isNewName e5) mk_X2_isNewName rfl (ck_k e1) (by decide) im_X2_isNewName sl_X2_isNewName lk_X2_113 rfl rfl rfl dX2_takeNewName_1 (Nat.le_of_ble_eq_true rfl) ⟨Nat.le_of_ble_eq_true rfl, Nat.le_of_ble_eq_true rfl⟩ ⟨Nat.le_of_ble_eq_true rfl, Nat.le_of_ble_eq_true rfl⟩ ?_
  refine r_ifne (tgt := 9) C dX2_takeNewName_4 (by decide) (fun c6 => ?_) (fun c6 => ?_)
  · rw [if_neg c6] at hf0
    refine r_aload_n C dX2_takeNewName_9 rfl ?_
    obtain ⟨t7, e8, hf0⟩ := ob hf0
    refine r_getR C fk_X2_40 rfl dX2_takeNewName_10 e8 ?_
    obtain ⟨t9, e10, hf0⟩ := ob hf0
    refine r_getR C fk_X2_116 rfl dX2_takeNewName_13 e10 ?_
    refine r_aload_n C dX2_takeNewName_16 rfl ?_
    obtain ⟨t11, e12, hf0⟩ := ob hf0
    refine r_getR C fk_X2_36 rfl dX2_takeNewName_17 e12 ?_
    obtain ⟨t13, e14, hf0⟩ := ob hf0
    refine r_getJ C fk_X2_120 rfl dX2_takeNewName_20 e14 ?_
    refine r_iload_n C dX2_takeNewName_23 rfl ?_
    refine r_iload_n C dX2_takeNewName_24 rfl ?_
    obtain ⟨u16, e15, hf0⟩ := ob hf0
    obtain ⟨h17, e18, hf0⟩ := ob hf0
    refine r_cV (ci := 7) (rest := []) (st2 := []) C (s_X7_add e18) mk_X7_add rfl (ck_k e15) (by decide) im_X7_add sl_X7_add lk_X2_124 rfl rfl rfl dX2_takeNewName_25 (Nat.le_of_ble_eq_true rfl) ⟨Nat.le_of_ble_eq_true rfl, Nat.le_of_ble_eq_true rfl⟩ ⟨Nat.le_of_ble_eq_true rfl, Nat.le_of_ble_eq_true rfl⟩ ?_
    refine r_aload_n C dX2_takeNewName_28 rfl ?_
    obtain ⟨t19, e20, hf0⟩ := ob hf0
    refine r_getR C fk_X2_36 rfl dX2_takeNewName_29 e20 ?_
    obtain ⟨u22, e21, hf0⟩ := ob hf0
    obtain ⟨h23, e24, hf0⟩ := ob hf0
    refine r_cV (ci := 4) (rest := []) (st2 := []) C (s_X4_advance e24) mk_X4_advance rfl (ck_k e21) (by decide) im_X4_advance sl_X4_advance lk_X2_91 rfl rfl rfl dX2_takeNewName_32 (Nat.le_of_ble_eq_true rfl) ⟨Nat.le_of_ble_eq_true rfl, Nat.le_of_ble_eq_true rfl⟩ ⟨Nat.le_of_ble_eq_true rfl, Nat.le_of_ble_eq_true rfl⟩ ?_
    refine r_iconst (v := 1) C dX2_takeNewName_35 (by decide) ?_
    obtain rfl := so hf0
    exact r_zret C dX2_takeNewName_36 (Or.inr rfl)
  · rw [if_pos c6] at hf0
    refine r_iconst (v := 0) C dX2_takeNewName_7 (by decide) ?_
    obtain rfl := so hf0
    exact r_zret C dX2_takeNewName_8 (Or.inl rfl)
def f_X4_take (h : aH) (v0 : Nat) (v1 : Int32) : Option (Int32 × aH) := (gI h 4 v0 10).bind fun t1 => if t1 = v1 then (ck h 4 v0).bind fun _ => (f_X4_advance h v0).bind fun h2 => some ((1 : Int32), h2) else (ck h 4 v0).bind fun _ => bd2 (f_X4_refuseHere h v0 (2 : Int32)) fun t3 h4 => (rZ t3).bind fun t5 => some (t5, h4)
theorem s_X4_take {h : aH} {v0 : Nat} {v1 : Int32} {out : Int32 × aH} (hf0 : f_X4_take h v0 v1 = some out) : EV 1 yX4_take cX4_take 2 (some .boolean) h [.ref v0, .int v1] (some (.int out.1)) out.2 0 0 := by
  refine EV.of (own := RX4) (lv0 := [(0, .ref v0), (1, .int v1)]) (by decide +kernel) rfl rfl (Nat.le_of_ble_eq_true rfl) ?_
  intro p l e s m args below meth c D cA B Hb C hin
  unfold f_X4_take at hf0
  refine r_aload_n C dX4_take_0 rfl ?_
  obtain ⟨t1, e2, hf0⟩ := ob hf0
  refine r_getI C fk_X4_45 rfl dX4_take_1 e2 ?_
  refine r_iload_n C dX4_take_4 rfl ?_
  refine r_icmp_eq (tgt := 14) C dX4_take_5 (by decide) (fun c3 => ?_) (fun c3 => ?_)
  · rw [if_pos c3] at hf0
    refine r_aload_n C dX4_take_14 rfl ?_
    obtain ⟨u5, e4, hf0⟩ := ob hf0
    obtain ⟨h6, e7, hf0⟩ := ob hf0
    refine r_cV (ci := 4) (rest := []) (st2 := []) C (s_X4_advance e7) mk_X4_advance rfl (ck_k e4) (by decide) im_X4_advance sl_X4_advance lk_X4_77 rfl rfl rfl dX4_take_15 (Nat.le_of_ble_eq_true rfl) ⟨Nat.le_of_ble_eq_true rfl, Nat.le_of_ble_eq_true rfl⟩ ⟨Nat.le_of_ble_eq_true rfl, Nat.le_of_ble_eq_true rfl⟩ ?_
    refine r_iconst (v := 1) C dX4_take_18 (by decide) ?_
    obtain rfl := so hf0
    exact r_zret C dX4_take_19 (Or.inr rfl)
  · rw [if_neg c3] at hf0
    refine r_aload_n C dX4_take_8 rfl ?_
    refine r_iconst (v := 2) C dX4_take_9 (by decide) ?_
    obtain ⟨u9, e8, hf0⟩ := ob hf0
    obtain ⟨t10, h11, e12, hf0⟩ := ob2 hf0
    refine r_cV (ci := 4) (rest := []) (st2 := [.int t10]) C (s_X4_refuseHere e12) mk_X4_refuseHere rfl (ck_k e8) (by decide) im_X4_refuseHere sl_X4_refuseHere lk_X4_99 rfl rfl rfl dX4_take_10 (Nat.le_of_ble_eq_true rfl) ⟨Nat.le_of_ble_eq_true rfl, Nat.le_of_ble_eq_true rfl⟩ ⟨Nat.le_of_ble_eq_true rfl, Nat.le_of_ble_eq_true rfl⟩ ?_
    obtain ⟨t13, e14, hf0⟩ := ob hf0
    obtain ⟨rfl, e14z⟩ := rZ_k e14
    obtain rfl := so hf0
    exact r_zret C dX4_take_13 e14z
def f_X4_takeNumber_j36 (h : aH) (v0 : Nat) : Option (Int32 × aH) := (ck h 4 v0).bind fun _ => bd2 (f_X4_refuseHere h v0 (4 : Int32)) fun t1 h2 => some ((-1 : Int32), h2)
def f_X4_takeNumber (h : aH) (v0 : Nat) (v1 : Int32) (v2 : Int32) : Option (Int32 × aH) := (gI h 4 v0 10).bind fun t3 => if t3 = (2 : Int32) then (gR h 4 v0 4).bind fun t4 => (gI h 4 v0 9).bind fun t5 => (lI h t4 t5).bind fun t6 => if t6 < v1 then f_X4_takeNumber_j36 h v0 else if t6 ≤ v2 then (ck h 4 v0).bind fun _ => (f_X4_advance h v0).bind fun h7 => some (t6, h7) else f_X4_takeNumber_j36 h v0 else (ck h 4 v0).bind fun _ => bd2 (f_X4_refuseHere h v0 (2 : Int32)) fun t8 h9 => some ((-1 : Int32), h9)
theorem s_X4_takeNumber {h : aH} {v0 : Nat} {v1 : Int32} {v2 : Int32} {out : Int32 × aH} (hf0 : f_X4_takeNumber h v0 v1 v2 = some out) : EV 1 yX4_takeNumber cX4_takeNumber 4 (some .int) h [.ref v0, .int v1, .int v2] (some (.int out.1)) out.2 0 0 := by
  refine EV.of (own := RX4) (lv0 := [(0, .ref v0), (1, .int v1), (2, .int v2)]) (by decide +kernel) rfl rfl (Nat.le_of_ble_eq_true rfl) ?_
  intro p l e s m args below meth c D cA B Hb C hin
  unfold f_X4_takeNumber at hf0
  have J36 : ∀ (h1 : aH) (t2 : Nat), f_X4_takeNumber_j36 h1 t2 = some out → gW p l e (rmO 1 0 0) s m args below meth c (MQ below (eQ D cA B Hb out.2 (some (.int out.1))) args s 0 0 (fun q => B ≤ q)) D cA B Hb 4 h1 36 [(0, .ref t2)] [] 0 0 := by
    intro h1 t2 hf0
    unfold f_X4_takeNumber_j36 at hf0
    refine r_aload_n C dX4_takeNumber_36 rfl ?_
    refine r_iconst (v := 4) C dX4_takeNumber_37 (by decide) ?_
    obtain ⟨u4, e3, hf0⟩ := ob hf0
    obtain ⟨t5, h6, e7, hf0⟩ := ob2 hf0
    refine r_cV (ci := 4) (rest := []) (st2 := [.int t5]) C (s_X4_refuseHere e7) mk_X4_refuseHere rfl (ck_k e3) (by decide) im_X4_refuseHere sl_X4_refuseHere lk_X4_99 rfl rfl rfl dX4_takeNumber_38 (Nat.le_of_ble_eq_true rfl) ⟨Nat.le_of_ble_eq_true rfl, Nat.le_of_ble_eq_true rfl⟩ ⟨Nat.le_of_ble_eq_true rfl, Nat.le_of_ble_eq_true rfl⟩ ?_
    refine r_pop C dX4_takeNumber_41 rfl ?_
    refine r_iconst (v := -1) C dX4_takeNumber_42 (by decide) ?_
    obtain rfl := so hf0
    exact r_iret C dX4_takeNumber_43
  refine r_aload_n C dX4_takeNumber_0 rfl ?_
  obtain ⟨t8, e9, hf0⟩ := ob hf0
  refine r_getI C fk_X4_45 rfl dX4_takeNumber_1 e9 ?_
  refine r_iconst (v := 2) C dX4_takeNumber_4 (by decide) ?_
  refine r_icmp_eq (tgt := 16) C dX4_takeNumber_5 (by decide) (fun c10 => ?_) (fun c10 => ?_)
  · rw [if_pos c10] at hf0
    refine r_aload_n C dX4_takeNumber_16 rfl ?_
    obtain ⟨t11, e12, hf0⟩ := ob hf0
    refine r_getR C fk_X4_26 rfl dX4_takeNumber_17 e12 ?_
    refine r_aload_n C dX4_takeNumber_20 rfl ?_
    obtain ⟨t13, e14, hf0⟩ := ob hf0
    refine r_getI C fk_X4_42 rfl dX4_takeNumber_21 e14 ?_
    obtain ⟨t15, e16, hf0⟩ := ob hf0
    refine r_ldI C dX4_takeNumber_24 e16 ?_
    refine r_istore_n (lv' := [(3, .int t15), (0, .ref v0), (1, .int v1), (2, .int v2)]) C dX4_takeNumber_25 (by decide) rfl rfl ?_
    refine r_iload_n C dX4_takeNumber_26 rfl ?_
    refine r_iload_n C dX4_takeNumber_27 rfl ?_
    refine r_icmp_lt (tgt := 36) C dX4_takeNumber_28 (by decide) (fun c17 => ?_) (fun c17 => ?_)
    · rw [if_pos c17] at hf0
      refine r_subk [1] (lv' := [(0, .ref v0)]) rfl ?_
      exact J36 h v0 hf0
    · rw [if_neg c17] at hf0
      refine r_iload_n C dX4_takeNumber_31 rfl ?_
      refine r_iload_n C dX4_takeNumber_32 rfl ?_
      refine r_icmp_le (tgt := 44) C dX4_takeNumber_33 (by decide) (fun c18 => ?_) (fun c18 => ?_)
      · rw [if_pos c18] at hf0
        refine r_aload_n C dX4_takeNumber_44 rfl ?_
        obtain ⟨u20, e19, hf0⟩ := ob hf0
        obtain ⟨h21, e22, hf0⟩ := ob hf0
        refine r_cV (ci := 4) (rest := []) (st2 := []) C (s_X4_advance e22) mk_X4_advance rfl (ck_k e19) (by decide) im_X4_advance sl_X4_advance lk_X4_77 rfl rfl rfl dX4_takeNumber_45 (Nat.le_of_ble_eq_true rfl) ⟨Nat.le_of_ble_eq_true rfl, Nat.le_of_ble_eq_true rfl⟩ ⟨Nat.le_of_ble_eq_true rfl, Nat.le_of_ble_eq_true rfl⟩ ?_
        refine r_iload_n C dX4_takeNumber_48 rfl ?_
        obtain rfl := so hf0
        exact r_iret C dX4_takeNumber_49
      · rw [if_neg c18] at hf0
        refine r_subk [1] (lv' := [(0, .ref v0)]) rfl ?_
        exact J36 h v0 hf0
  · rw [if_neg c10] at hf0
    refine r_aload_n C dX4_takeNumber_8 rfl ?_
    refine r_iconst (v := 2) C dX4_takeNumber_9 (by decide) ?_
    obtain ⟨u24, e23, hf0⟩ := ob hf0
    obtain ⟨t25, h26, e27, hf0⟩ := ob2 hf0
    refine r_cV (ci := 4) (rest := []) (st2 := [.int t25]) C (s_X4_refuseHere e27) mk_X4_refuseHere rfl (ck_k e23) (by decide) im_X4_refuseHere sl_X4_refuseHere lk_X4_99 rfl rfl rfl dX4_takeNumber_10 (Nat.le_of_ble_eq_true rfl) ⟨Nat.le_of_ble_eq_true rfl, Nat.le_of_ble_eq_true rfl⟩ ⟨Nat.le_of_ble_eq_true rfl, Nat.le_of_ble_eq_true rfl⟩ ?_
    refine r_pop C dX4_takeNumber_13 rfl ?_
    refine r_iconst (v := -1) C dX4_takeNumber_14 (by decide) ?_
    obtain rfl := so hf0
    exact r_iret C dX4_takeNumber_15
def f_X2_readValue_j128 (h : aH) (v0 : Nat) : Option (Int32 × aH) := (gR h 2 v0 0).bind fun t1 => (gI h 4 t1 12).bind fun t2 => if t2 = 0 then some ((1 : Int32), h) else some ((0 : Int32), h)
def f_X2_readValue (h : aH) (v0 : Nat) (v1 : Int32) : Option (Int32 × aH) := (ck h 2 v0).bind fun _ => bd2 (f_X2_isNewName h v0) fun t3 h4 => if t3 = 0 then some ((0 : Int32), h4) else if v1 < (6 : Int32) then (gR h4 2 v0 6).bind fun t5 => (gI h4 1 t5 13).bind fun t6 => (gR h4 2 v0 6).bind fun t7 => (gR h4 1 t7 0).bind fun t8 => (gR h4 2 v0 0).bind fun t9 => (gJ h4 4 t9 11).bind fun t10 => (ck h4 7 t8).bind fun _ => (f_X7_add h4 t8 t10 (1 : Int32) t6).bind fun h11 => (gR h11 2 v0 6).bind fun t12 => (gR h11 1 t12 3).bind fun t13 => (gR h11 2 v0 6).bind fun t14 => (gI h11 1 t14 12).bind fun t15 => (sI h11 t13 t6 t15).bind fun h16 => (gR h16 2 v0 6).bind fun t17 => (gR h16 1 t17 4).bind fun t18 => (sI h16 t18 t6 (1 : Int32)).bind fun h19 => (gR h19 2 v0 6).bind fun t20 => (gI h19 1 t20 13).bind fun t21 => (pI h19 1 t20 13 (t21 + (1 : Int32))).bind fun h22 => (gR h22 2 v0 0).bind fun t23 => (ck h22 4 t23).bind fun _ => (f_X4_advance h22 t23).bind fun h24 => (gR h24 2 v0 0).bind fun t25 => (gI h24 4 t25 10).bind fun t26 => if t26 = (2 : Int32) then (gR h24 2 v0 6).bind fun t27 => (gR h24 1 t27 4).bind fun t28 => (gR h24 2 v0 0).bind fun t29 => (ck h24 4 t29).bind fun _ => bd2 (f_X4_takeNumber h24 t29 (1 : Int32) (9 : Int32)) fun t30 h31 => (sI h31 t28 t6 t30).bind fun h32 => f_X2_readValue_j128 h32 v0 else f_X2_readValue_j128 h24 v0 else (gR h4 2 v0 0).bind fun t33 => (ck h4 4 t33).bind fun _ => bd2 (f_X4_refuseHere h4 t33 (6 : Int32)) fun t34 h35 => (rZ t34).bind fun t36 => some (t36, h35)
theorem s_X2_readValue {h : aH} {v0 : Nat} {v1 : Int32} {out : Int32 × aH} (hf0 : f_X2_readValue h v0 v1 = some out) : EV 2 yX2_readValue cX2_readValue 3 (some .boolean) h [.ref v0, .int v1] (some (.int out.1)) out.2 0 0 := by
  refine EV.of (own := RX2) (lv0 := [(0, .ref v0), (1, .int v1)]) (by decide +kernel) rfl rfl (Nat.le_of_ble_eq_true rfl) ?_
  intro p l e s m args below meth c D cA B Hb C hin
  unfold f_X2_readValue at hf0
  have J128 : ∀ (h1 : aH) (t2 : Nat), f_X2_readValue_j128 h1 t2 = some out → gW p l e (rmO 2 0 0) s m args below meth c (MQ below (eQ D cA B Hb out.2 (some (.int out.1))) args s 0 0 (fun q => B ≤ q)) D cA B Hb 3 h1 128 [(0, .ref t2)] [] 0 0 := by
    intro h1 t2 hf0
    unfold f_X2_readValue_j128 at hf0
    refine r_aload_n C dX2_readValue_128 rfl ?_
    obtain ⟨t3, e4, hf0⟩ := ob hf0
    refine r_getR C fk_X2_36 rfl dX2_readValue_129 e4 ?_
    obtain ⟨t5, e6, hf0⟩ := ob hf0
    refine r_getI C fk_X2_140 rfl dX2_readValue_132 e6 ?_
    refine r_ifne (tgt := 142) C dX2_readValue_135 (by decide) (fun c7 => ?_) (fun c7 => ?_)
    · rw [if_neg c7] at hf0
      refine r_iconst (v := 0) C dX2_readValue_142 (by decide) ?_
      obtain rfl := so hf0
      exact r_zret C dX2_readValue_143 (Or.inl rfl)
    · rw [if_pos c7] at hf0
      refine r_iconst (v := 1) C dX2_readValue_138 (by decide) ?_
      refine r_goto (tgt := 143) C dX2_readValue_139 (by decide) ?_
      obtain rfl := so hf0
      exact r_zret C dX2_readValue_143 (Or.inr rfl)
  refine r_aload_n C dX2_readValue_0 rfl ?_
  obtain ⟨u9, e8, hf0⟩ := ob hf0
  obtain ⟨t10, h11, e12, hf0⟩ := ob2 hf0
  refine r_cV (ci := 2) (rest := []) (st2 := [.int t10]) C (s_X2_isNewName e12) mk_X2_isNewName rfl (ck_k e8) (by decide) im_X2_isNewName sl_X2_isNewName lk_X2_113 rfl rfl rfl dX2_readValue_1 (Nat.le_of_ble_eq_true rfl) ⟨Nat.le_of_ble_eq_true rfl, Nat.le_of_ble_eq_true rfl⟩ ⟨Nat.le_of_ble_eq_true rfl, Nat.le_of_ble_eq_true rfl⟩ ?_
  refine r_ifne (tgt := 9) C dX2_readValue_4 (by decide) (fun c13 => ?_) (fun c13 => ?_)
  · rw [if_neg c13] at hf0
    refine r_iload_n C dX2_readValue_9 rfl ?_
    refine r_bipush (v := 6) C dX2_readValue_10 (by decide) ?_
    refine r_icmp_lt (tgt := 25) C dX2_readValue_12 (by decide) (fun c14 => ?_) (fun c14 => ?_)
    · rw [if_pos c14] at hf0
      refine r_aload_n C dX2_readValue_25 rfl ?_
      obtain ⟨t15, e16, hf0⟩ := ob hf0
      refine r_getR C fk_X2_40 rfl dX2_readValue_26 e16 ?_
      obtain ⟨t17, e18, hf0⟩ := ob hf0
      refine r_getI C fk_X2_104 rfl dX2_readValue_29 e18 ?_
      refine r_istore_n (lv' := [(2, .int t17), (0, .ref v0), (1, .int v1)]) C dX2_readValue_32 (by decide) rfl rfl ?_
      refine r_aload_n C dX2_readValue_33 rfl ?_
      obtain ⟨t19, e20, hf0⟩ := ob hf0
      refine r_getR C fk_X2_40 rfl dX2_readValue_34 e20 ?_
      obtain ⟨t21, e22, hf0⟩ := ob hf0
      refine r_getR C fk_X2_116 rfl dX2_readValue_37 e22 ?_
      refine r_aload_n C dX2_readValue_40 rfl ?_
      obtain ⟨t23, e24, hf0⟩ := ob hf0
      refine r_getR C fk_X2_36 rfl dX2_readValue_41 e24 ?_
      obtain ⟨t25, e26, hf0⟩ := ob hf0
      refine r_getJ C fk_X2_120 rfl dX2_readValue_44 e26 ?_
      refine r_iconst (v := 1) C dX2_readValue_47 (by decide) ?_
      refine r_iload_n C dX2_readValue_48 rfl ?_
      obtain ⟨u28, e27, hf0⟩ := ob hf0
      obtain ⟨h29, e30, hf0⟩ := ob hf0
      refine r_cV (ci := 7) (rest := []) (st2 := []) C (s_X7_add e30) mk_X7_add rfl (ck_k e27) (by decide) im_X7_add sl_X7_add lk_X2_124 rfl rfl rfl dX2_readValue_49 (Nat.le_of_ble_eq_true rfl) ⟨Nat.le_of_ble_eq_true rfl, Nat.le_of_ble_eq_true rfl⟩ ⟨Nat.le_of_ble_eq_true rfl, Nat.le_of_ble_eq_true rfl⟩ ?_
      refine r_aload_n C dX2_readValue_52 rfl ?_
      obtain ⟨t31, e32, hf0⟩ := ob hf0
      refine r_getR C fk_X2_40 rfl dX2_readValue_53 e32 ?_
      obtain ⟨t33, e34, hf0⟩ := ob hf0
      refine r_getR C fk_X2_130 rfl dX2_readValue_56 e34 ?_
      refine r_iload_n C dX2_readValue_59 rfl ?_
      refine r_aload_n C dX2_readValue_60 rfl ?_
      obtain ⟨t35, e36, hf0⟩ := ob hf0
      refine r_getR C fk_X2_40 rfl dX2_readValue_61 e36 ?_
      obtain ⟨t37, e38, hf0⟩ := ob hf0
      refine r_getI C fk_X2_85 rfl dX2_readValue_64 e38 ?_
      obtain ⟨h39, e40, hf0⟩ := ob hf0
      refine r_stI C dX2_readValue_67 e40 ?_
      refine r_aload_n C dX2_readValue_68 rfl ?_
      obtain ⟨t41, e42, hf0⟩ := ob hf0
      refine r_getR C fk_X2_40 rfl dX2_readValue_69 e42 ?_
      obtain ⟨t43, e44, hf0⟩ := ob hf0
      refine r_getR C fk_X2_133 rfl dX2_readValue_72 e44 ?_
      refine r_iload_n C dX2_readValue_75 rfl ?_
      refine r_iconst (v := 1) C dX2_readValue_76 (by decide) ?_
      obtain ⟨h45, e46, hf0⟩ := ob hf0
      refine r_stI C dX2_readValue_77 e46 ?_
      refine r_aload_n C dX2_readValue_78 rfl ?_
      obtain ⟨t47, e48, hf0⟩ := ob hf0
      refine r_getR C fk_X2_40 rfl dX2_readValue_79 e48 ?_
      refine r_dup C dX2_readValue_82 rfl ?_
      obtain ⟨t49, e50, hf0⟩ := ob hf0
      refine r_getI C fk_X2_104 rfl dX2_readValue_83 e50 ?_
      refine r_iconst (v := 1) C dX2_readValue_86 (by decide) ?_
      refine r_iadd C dX2_readValue_87 ?_
      obtain ⟨h51, e52, hf0⟩ := ob hf0
      refine r_putI C fk_X2_104 dX2_readValue_88 e52 ?_
      refine r_aload_n C dX2_readValue_91 rfl ?_
      obtain ⟨t53, e54, hf0⟩ := ob hf0
      refine r_getR C fk_X2_36 rfl dX2_readValue_92 e54 ?_
      obtain ⟨u56, e55, hf0⟩ := ob hf0
      obtain ⟨h57, e58, hf0⟩ := ob hf0
      refine r_cV (ci := 4) (rest := []) (st2 := []) C (s_X4_advance e58) mk_X4_advance rfl (ck_k e55) (by decide) im_X4_advance sl_X4_advance lk_X2_91 rfl rfl rfl dX2_readValue_95 (Nat.le_of_ble_eq_true rfl) ⟨Nat.le_of_ble_eq_true rfl, Nat.le_of_ble_eq_true rfl⟩ ⟨Nat.le_of_ble_eq_true rfl, Nat.le_of_ble_eq_true rfl⟩ ?_
      refine r_aload_n C dX2_readValue_98 rfl ?_
      obtain ⟨t59, e60, hf0⟩ := ob hf0
      refine r_getR C fk_X2_36 rfl dX2_readValue_99 e60 ?_
      obtain ⟨t61, e62, hf0⟩ := ob hf0
      refine r_getI C fk_X2_55 rfl dX2_readValue_102 e62 ?_
      refine r_iconst (v := 2) C dX2_readValue_105 (by decide) ?_
      refine r_icmp_ne (tgt := 128) C dX2_readValue_106 (by decide) (fun c63 => ?_) (fun c63 => ?_)
      · rw [if_neg c63] at hf0
        refine r_subk [1] (lv' := [(0, .ref v0)]) rfl ?_
        exact J128 h57 v0 hf0
      · rw [if_pos c63] at hf0
        refine r_aload_n C dX2_readValue_109 rfl ?_
        obtain ⟨t64, e65, hf0⟩ := ob hf0
        refine r_getR C fk_X2_40 rfl dX2_readValue_110 e65 ?_
        obtain ⟨t66, e67, hf0⟩ := ob hf0
        refine r_getR C fk_X2_133 rfl dX2_readValue_113 e67 ?_
        refine r_iload_n C dX2_readValue_116 rfl ?_
        refine r_aload_n C dX2_readValue_117 rfl ?_
        obtain ⟨t68, e69, hf0⟩ := ob hf0
        refine r_getR C fk_X2_36 rfl dX2_readValue_118 e69 ?_
        refine r_iconst (v := 1) C dX2_readValue_121 (by decide) ?_
        refine r_bipush (v := 9) C dX2_readValue_122 (by decide) ?_
        obtain ⟨u71, e70, hf0⟩ := ob hf0
        obtain ⟨t72, h73, e74, hf0⟩ := ob2 hf0
        refine r_cV (ci := 4) (rest := [.int t17, .ref t66]) (st2 := [.int t72, .int t17, .ref t66]) C (s_X4_takeNumber e74) mk_X4_takeNumber rfl (ck_k e70) (by decide) im_X4_takeNumber sl_X4_takeNumber lk_X2_136 rfl rfl rfl dX2_readValue_124 (Nat.le_of_ble_eq_true rfl) ⟨Nat.le_of_ble_eq_true rfl, Nat.le_of_ble_eq_true rfl⟩ ⟨Nat.le_of_ble_eq_true rfl, Nat.le_of_ble_eq_true rfl⟩ ?_
        obtain ⟨h75, e76, hf0⟩ := ob hf0
        refine r_stI C dX2_readValue_127 e76 ?_
        refine r_subk [1] (lv' := [(0, .ref v0)]) rfl ?_
        exact J128 h75 v0 hf0
    · rw [if_neg c14] at hf0
      refine r_aload_n C dX2_readValue_15 rfl ?_
      obtain ⟨t77, e78, hf0⟩ := ob hf0
      refine r_getR C fk_X2_36 rfl dX2_readValue_16 e78 ?_
      refine r_bipush (v := 6) C dX2_readValue_19 (by decide) ?_
      obtain ⟨u80, e79, hf0⟩ := ob hf0
      obtain ⟨t81, h82, e83, hf0⟩ := ob2 hf0
      refine r_cV (ci := 4) (rest := []) (st2 := [.int t81]) C (s_X4_refuseHere e83) mk_X4_refuseHere rfl (ck_k e79) (by decide) im_X4_refuseHere sl_X4_refuseHere lk_X2_74 rfl rfl rfl dX2_readValue_21 (Nat.le_of_ble_eq_true rfl) ⟨Nat.le_of_ble_eq_true rfl, Nat.le_of_ble_eq_true rfl⟩ ⟨Nat.le_of_ble_eq_true rfl, Nat.le_of_ble_eq_true rfl⟩ ?_
      obtain ⟨t84, e85, hf0⟩ := ob hf0
      obtain ⟨rfl, e85z⟩ := rZ_k e85
      obtain rfl := so hf0
      exact r_zret C dX2_readValue_24 e85z
  · rw [if_pos c13] at hf0
    refine r_iconst (v := 0) C dX2_readValue_7 (by decide) ?_
    obtain rfl := so hf0
    exact r_zret C dX2_readValue_8 (Or.inl rfl)
def f_X2_closeFact_j44 (h : aH) (v0 : Nat) : Option (Int32 × aH) := (gR h 2 v0 0).bind fun t1 => (ck h 4 t1).bind fun _ => bd2 (f_X4_refuseHere h t1 (8 : Int32)) fun t2 h3 => (rZ t2).bind fun t4 => some (t4, h3)
def f_X2_closeFact (h : aH) (v0 : Nat) : Option (Int32 × aH) := (gR h 2 v0 6).bind fun t5 => (gI h 1 t5 13).bind fun t6 => (gR h 2 v0 6).bind fun t7 => (gR h 1 t7 1).bind fun t8 => (gR h 2 v0 6).bind fun t9 => (gI h 1 t9 12).bind fun t10 => (lI h t8 t10).bind fun t11 => (some (t6 - t11)).bind fun t12 => if t12 < (2 : Int32) then f_X2_closeFact_j44 h v0 else (gR h 2 v0 6).bind fun t13 => (gI h 1 t13 14).bind fun t14 => if (t14 * t12) ≤ (256 : Int32) then (gR h 2 v0 6).bind fun t15 => (gI h 1 t15 14).bind fun t16 => (pI h 1 t15 14 (t16 * t12)).bind fun h17 => (gR h17 2 v0 6).bind fun t18 => (gI h17 1 t18 12).bind fun t19 => (pI h17 1 t18 12 (t19 + (1 : Int32))).bind fun h20 => (gR h20 2 v0 6).bind fun t21 => (gR h20 1 t21 1).bind fun t22 => (gR h20 2 v0 6).bind fun t23 => (gI h20 1 t23 12).bind fun t24 => (gR h20 2 v0 6).bind fun t25 => (gI h20 1 t25 13).bind fun t26 => (sI h20 t22 t24 t26).bind fun h27 => (gR h27 2 v0 0).bind fun t28 => (ck h27 4 t28).bind fun _ => bd2 (f_X4_take h27 t28 (3 : Int32)) fun t29 h30 => (rZ t29).bind fun t31 => some (t31, h30) else f_X2_closeFact_j44 h v0
theorem s_X2_closeFact {h : aH} {v0 : Nat} {out : Int32 × aH} (hf0 : f_X2_closeFact h v0 = some out) : EV 2 yX2_closeFact cX2_closeFact 2 (some .boolean) h [.ref v0] (some (.int out.1)) out.2 0 0 := by
  refine EV.of (own := RX2) (lv0 := [(0, .ref v0)]) (by decide +kernel) rfl rfl (Nat.le_of_ble_eq_true rfl) ?_
  intro p l e s m args below meth c D cA B Hb C hin
  unfold f_X2_closeFact at hf0
  have J44 : ∀ (h1 : aH) (t2 : Nat), f_X2_closeFact_j44 h1 t2 = some out → gW p l e (rmO 2 0 0) s m args below meth c (MQ below (eQ D cA B Hb out.2 (some (.int out.1))) args s 0 0 (fun q => B ≤ q)) D cA B Hb 2 h1 44 [(0, .ref t2)] [] 0 0 := by
    intro h1 t2 hf0
    unfold f_X2_closeFact_j44 at hf0
    refine r_aload_n C dX2_closeFact_44 rfl ?_
    obtain ⟨t3, e4, hf0⟩ := ob hf0
    refine r_getR C fk_X2_36 rfl dX2_closeFact_45 e4 ?_
    refine r_bipush (v := 8) C dX2_closeFact_48 (by decide) ?_
    obtain ⟨u6, e5, hf0⟩ := ob hf0
    obtain ⟨t7, h8, e9, hf0⟩ := ob2 hf0
    refine r_cV (ci := 4) (rest := []) (st2 := [.int t7]) C (s_X4_refuseHere e9) mk_X4_refuseHere rfl (ck_k e5) (by decide) im_X4_refuseHere sl_X4_refuseHere lk_X2_74 rfl rfl rfl dX2_closeFact_50 (Nat.le_of_ble_eq_true rfl) ⟨Nat.le_of_ble_eq_true rfl, Nat.le_of_ble_eq_true rfl⟩ ⟨Nat.le_of_ble_eq_true rfl, Nat.le_of_ble_eq_true rfl⟩ ?_
    obtain ⟨t10, e11, hf0⟩ := ob hf0
    obtain ⟨rfl, e11z⟩ := rZ_k e11
    obtain rfl := so hf0
    exact r_zret C dX2_closeFact_53 e11z
  refine r_aload_n C dX2_closeFact_0 rfl ?_
  obtain ⟨t12, e13, hf0⟩ := ob hf0
  refine r_getR C fk_X2_40 rfl dX2_closeFact_1 e13 ?_
  obtain ⟨t14, e15, hf0⟩ := ob hf0
  refine r_getI C fk_X2_104 rfl dX2_closeFact_4 e15 ?_
  refine r_aload_n C dX2_closeFact_7 rfl ?_
  obtain ⟨t16, e17, hf0⟩ := ob hf0
  refine r_getR C fk_X2_40 rfl dX2_closeFact_8 e17 ?_
  obtain ⟨t18, e19, hf0⟩ := ob hf0
  refine r_getR C fk_X2_101 rfl dX2_closeFact_11 e19 ?_
  refine r_aload_n C dX2_closeFact_14 rfl ?_
  obtain ⟨t20, e21, hf0⟩ := ob hf0
  refine r_getR C fk_X2_40 rfl dX2_closeFact_15 e21 ?_
  obtain ⟨t22, e23, hf0⟩ := ob hf0
  refine r_getI C fk_X2_85 rfl dX2_closeFact_18 e23 ?_
  obtain ⟨t24, e25, hf0⟩ := ob hf0
  refine r_ldI C dX2_closeFact_21 e25 ?_
  refine r_isub C dX2_closeFact_22 ?_
  obtain ⟨t26, e27, hf0⟩ := ob hf0
  refine r_istore_n (lv' := [(1, .int t26), (0, .ref v0)]) C dX2_closeFact_23 (by decide) e27 rfl ?_
  refine r_iload_n C dX2_closeFact_24 rfl ?_
  refine r_iconst (v := 2) C dX2_closeFact_25 (by decide) ?_
  refine r_icmp_lt (tgt := 44) C dX2_closeFact_26 (by decide) (fun c28 => ?_) (fun c28 => ?_)
  · rw [if_pos c28] at hf0
    refine r_subk [1] (lv' := [(0, .ref v0)]) rfl ?_
    exact J44 h v0 hf0
  · rw [if_neg c28] at hf0
    refine r_aload_n C dX2_closeFact_29 rfl ?_
    obtain ⟨t29, e30, hf0⟩ := ob hf0
    refine r_getR C fk_X2_40 rfl dX2_closeFact_30 e30 ?_
    obtain ⟨t31, e32, hf0⟩ := ob hf0
    refine r_getI C fk_X2_143 rfl dX2_closeFact_33 e32 ?_
    refine r_iload_n C dX2_closeFact_36 rfl ?_
    refine r_imul C dX2_closeFact_37 ?_
    refine r_sipush (v := 256) C dX2_closeFact_38 (by decide) ?_
    refine r_icmp_le (tgt := 54) C dX2_closeFact_41 (by decide) (fun c33 => ?_) (fun c33 => ?_)
    · rw [if_pos c33] at hf0
      refine r_aload_n C dX2_closeFact_54 rfl ?_
      obtain ⟨t34, e35, hf0⟩ := ob hf0
      refine r_getR C fk_X2_40 rfl dX2_closeFact_55 e35 ?_
      refine r_dup C dX2_closeFact_58 rfl ?_
      obtain ⟨t36, e37, hf0⟩ := ob hf0
      refine r_getI C fk_X2_143 rfl dX2_closeFact_59 e37 ?_
      refine r_iload_n C dX2_closeFact_62 rfl ?_
      refine r_imul C dX2_closeFact_63 ?_
      obtain ⟨h38, e39, hf0⟩ := ob hf0
      refine r_putI C fk_X2_143 dX2_closeFact_64 e39 ?_
      refine r_aload_n C dX2_closeFact_67 rfl ?_
      obtain ⟨t40, e41, hf0⟩ := ob hf0
      refine r_getR C fk_X2_40 rfl dX2_closeFact_68 e41 ?_
      refine r_dup C dX2_closeFact_71 rfl ?_
      obtain ⟨t42, e43, hf0⟩ := ob hf0
      refine r_getI C fk_X2_85 rfl dX2_closeFact_72 e43 ?_
      refine r_iconst (v := 1) C dX2_closeFact_75 (by decide) ?_
      refine r_iadd C dX2_closeFact_76 ?_
      obtain ⟨h44, e45, hf0⟩ := ob hf0
      refine r_putI C fk_X2_85 dX2_closeFact_77 e45 ?_
      refine r_aload_n C dX2_closeFact_80 rfl ?_
      obtain ⟨t46, e47, hf0⟩ := ob hf0
      refine r_getR C fk_X2_40 rfl dX2_closeFact_81 e47 ?_
      obtain ⟨t48, e49, hf0⟩ := ob hf0
      refine r_getR C fk_X2_101 rfl dX2_closeFact_84 e49 ?_
      refine r_aload_n C dX2_closeFact_87 rfl ?_
      obtain ⟨t50, e51, hf0⟩ := ob hf0
      refine r_getR C fk_X2_40 rfl dX2_closeFact_88 e51 ?_
      obtain ⟨t52, e53, hf0⟩ := ob hf0
      refine r_getI C fk_X2_85 rfl dX2_closeFact_91 e53 ?_
      refine r_aload_n C dX2_closeFact_94 rfl ?_
      obtain ⟨t54, e55, hf0⟩ := ob hf0
      refine r_getR C fk_X2_40 rfl dX2_closeFact_95 e55 ?_
      obtain ⟨t56, e57, hf0⟩ := ob hf0
      refine r_getI C fk_X2_104 rfl dX2_closeFact_98 e57 ?_
      obtain ⟨h58, e59, hf0⟩ := ob hf0
      refine r_stI C dX2_closeFact_101 e59 ?_
      refine r_aload_n C dX2_closeFact_102 rfl ?_
      obtain ⟨t60, e61, hf0⟩ := ob hf0
      refine r_getR C fk_X2_36 rfl dX2_closeFact_103 e61 ?_
      refine r_iconst (v := 3) C dX2_closeFact_106 (by decide) ?_
      obtain ⟨u63, e62, hf0⟩ := ob hf0
      obtain ⟨t64, h65, e66, hf0⟩ := ob2 hf0
      refine r_cV (ci := 4) (rest := []) (st2 := [.int t64]) C (s_X4_take e66) mk_X4_take rfl (ck_k e62) (by decide) im_X4_take sl_X4_take lk_X2_98 rfl rfl rfl dX2_closeFact_107 (Nat.le_of_ble_eq_true rfl) ⟨Nat.le_of_ble_eq_true rfl, Nat.le_of_ble_eq_true rfl⟩ ⟨Nat.le_of_ble_eq_true rfl, Nat.le_of_ble_eq_true rfl⟩ ?_
      obtain ⟨t67, e68, hf0⟩ := ob hf0
      obtain ⟨rfl, e68z⟩ := rZ_k e68
      obtain rfl := so hf0
      exact r_zret C dX2_closeFact_110 e68z
    · rw [if_neg c33] at hf0
      refine r_subk [1] (lv' := [(0, .ref v0)]) rfl ?_
      exact J44 h v0 hf0
def f_X2_readFact_j138 (h : aH) (v0 : Nat) : Option (Int32 × aH) := (ck h 2 v0).bind fun _ => bd2 (f_X2_closeFact h v0) fun t1 h2 => (rZ t1).bind fun t3 => some (t3, h2)
def f_X2_readFact_j122 (h : aH) (v0 : Nat) (v1 : Int32) : Option ((Int32 × aH) ⊕ ((aH) ⊕ (aH))) := (ck h 2 v0).bind fun _ => bd2 (f_X2_readValue h v0 v1) fun t24 h25 => if t24 = 0 then some (.inr (.inl h25)) else (some (v1 + (1 : Int32))).bind fun t26 => some (.inl (t26, h25))
def f_X2_readFact_b101 (v0 : Nat) (v1 : Int32) (h : aH) : Option ((Int32 × aH) ⊕ ((aH) ⊕ (aH))) := if (6 : Int32) < v1 then some (.inr (.inr h)) else if v1 = 0 then f_X2_readFact_j122 h v0 v1 else (gR h 2 v0 0).bind fun t27 => (gI h 4 t27 10).bind fun t28 => if t28 = (3 : Int32) then some (.inr (.inr h)) else f_X2_readFact_j122 h v0 v1
def f_X2_readFact_l101 (v0 : Nat) (v1 : Int32) (h : aH) : Option ((aH) ⊕ (aH)) := whileL wN (fun q : Int32 × aH => f_X2_readFact_b101 v0 q.1 q.2) (v1, h)
def f_X2_readFact (h : aH) (v0 : Nat) : Option (Int32 × aH) := (gR h 2 v0 6).bind fun t4 => (gI h 1 t4 12).bind fun t5 => if t5 < (4 : Int32) then (gR h 2 v0 6).bind fun t6 => (gI h 1 t6 16).bind fun t7 => if t7 ≤ 0 then (gR h 2 v0 0).bind fun t8 => (ck h 4 t8).bind fun _ => (f_X4_advance h t8).bind fun h9 => (gR h9 2 v0 6).bind fun t10 => (gI h9 1 t10 12).bind fun t11 => (ck h9 2 v0).bind fun _ => bd2 (f_X2_takeNewName h9 v0 (0 : Int32) t11) fun t12 h13 => if t12 = 0 then some ((0 : Int32), h13) else (gR h13 2 v0 0).bind fun t14 => (ck h13 4 t14).bind fun _ => bd2 (f_X4_take h13 t14 (9 : Int32)) fun t15 h16 => if t15 = 0 then some ((0 : Int32), h16) else (gR h16 2 v0 6).bind fun t17 => (gR h16 1 t17 1).bind fun t18 => (gR h16 2 v0 6).bind fun t19 => (gI h16 1 t19 12).bind fun t20 => (gR h16 2 v0 6).bind fun t21 => (gI h16 1 t21 13).bind fun t22 => (sI h16 t18 t20 t22).bind fun h23 => (f_X2_readFact_l101 v0 (0 : Int32) h23).bind fun e => match e with | .inl h29 => some ((0 : Int32), h29) | .inr h30 => f_X2_readFact_j138 h30 v0 else (gR h 2 v0 0).bind fun t31 => (ck h 4 t31).bind fun _ => bd2 (f_X4_refuseHere h t31 (7 : Int32)) fun t32 h33 => (rZ t32).bind fun t34 => some (t34, h33) else (gR h 2 v0 0).bind fun t35 => (ck h 4 t35).bind fun _ => bd2 (f_X4_refuseHere h t35 (6 : Int32)) fun t36 h37 => (rZ t36).bind fun t38 => some (t38, h37)
theorem s_X2_readFact {h : aH} {v0 : Nat} {out : Int32 × aH} (hf0 : f_X2_readFact h v0 = some out) : EV 3 yX2_readFact cX2_readFact 2 (some .boolean) h [.ref v0] (some (.int out.1)) out.2 0 0 := by
  refine EV.of (own := RX2) (lv0 := [(0, .ref v0)]) (by decide +kernel) rfl rfl (Nat.le_of_ble_eq_true rfl) ?_
  intro p l e s m args below meth c D cA B Hb C hin
  unfold f_X2_readFact at hf0
  have J138 : ∀ (h1 : aH) (t2 : Nat), f_X2_readFact_j138 h1 t2 = some out → gW p l e (rmO 3 0 0) s m args below meth c (MQ below (eQ D cA B Hb out.2 (some (.int out.1))) args s 0 0 (fun q => B ≤ q)) D cA B Hb 2 h1 138 [(0, .ref t2)] [] 0 0 := by
    intro h1 t2 hf0
    unfold f_X2_readFact_j138 at hf0
    refine r_aload_n C dX2_readFact_138 rfl ?_
    obtain ⟨u4, e3, hf0⟩ := ob hf0
    obtain ⟨t5, h6, e7, hf0⟩ := ob2 hf0
    refine r_cV (ci := 2) (rest := []) (st2 := [.int t5]) C (s_X2_closeFact e7) mk_X2_closeFact rfl (ck_k e3) (by decide) im_X2_closeFact sl_X2_closeFact lk_X2_110 rfl rfl rfl dX2_readFact_139 (Nat.le_of_ble_eq_true rfl) ⟨Nat.le_of_ble_eq_true rfl, Nat.le_of_ble_eq_true rfl⟩ ⟨Nat.le_of_ble_eq_true rfl, Nat.le_of_ble_eq_true rfl⟩ ?_
    obtain ⟨t8, e9, hf0⟩ := ob hf0
    obtain ⟨rfl, e9z⟩ := rZ_k e9
    obtain rfl := so hf0
    exact r_zret C dX2_readFact_142 e9z
  refine r_aload_n C dX2_readFact_0 rfl ?_
  obtain ⟨t10, e11, hf0⟩ := ob hf0
  refine r_getR C fk_X2_40 rfl dX2_readFact_1 e11 ?_
  obtain ⟨t12, e13, hf0⟩ := ob hf0
  refine r_getI C fk_X2_85 rfl dX2_readFact_4 e13 ?_
  refine r_iconst (v := 4) C dX2_readFact_7 (by decide) ?_
  refine r_icmp_lt (tgt := 21) C dX2_readFact_8 (by decide) (fun c14 => ?_) (fun c14 => ?_)
  · rw [if_pos c14] at hf0
    refine r_aload_n C dX2_readFact_21 rfl ?_
    obtain ⟨t15, e16, hf0⟩ := ob hf0
    refine r_getR C fk_X2_40 rfl dX2_readFact_22 e16 ?_
    obtain ⟨t17, e18, hf0⟩ := ob hf0
    refine r_getI C fk_X2_88 rfl dX2_readFact_25 e18 ?_
    refine r_ifle (tgt := 41) C dX2_readFact_28 (by decide) (fun c19 => ?_) (fun c19 => ?_)
    · rw [if_pos c19] at hf0
      refine r_aload_n C dX2_readFact_41 rfl ?_
      obtain ⟨t20, e21, hf0⟩ := ob hf0
      refine r_getR C fk_X2_36 rfl dX2_readFact_42 e21 ?_
      obtain ⟨u23, e22, hf0⟩ := ob hf0
      obtain ⟨h24, e25, hf0⟩ := ob hf0
      refine r_cV (ci := 4) (rest := []) (st2 := []) C (s_X4_advance e25) mk_X4_advance rfl (ck_k e22) (by decide) im_X4_advance sl_X4_advance lk_X2_91 rfl rfl rfl dX2_readFact_45 (Nat.le_of_ble_eq_true rfl) ⟨Nat.le_of_ble_eq_true rfl, Nat.le_of_ble_eq_true rfl⟩ ⟨Nat.le_of_ble_eq_true rfl, Nat.le_of_ble_eq_true rfl⟩ ?_
      refine r_aload_n C dX2_readFact_48 rfl ?_
      refine r_iconst (v := 0) C dX2_readFact_49 (by decide) ?_
      refine r_aload_n C dX2_readFact_50 rfl ?_
      obtain ⟨t26, e27, hf0⟩ := ob hf0
      refine r_getR C fk_X2_40 rfl dX2_readFact_51 e27 ?_
      obtain ⟨t28, e29, hf0⟩ := ob hf0
      refine r_getI C fk_X2_85 rfl dX2_readFact_54 e29 ?_
      obtain ⟨u31, e30, hf0⟩ := ob hf0
      obtain ⟨t32, h33, e34, hf0⟩ := ob2 hf0
      refine r_cV (ci := 2) (rest := []) (st2 := [.int t32]) C (s_X2_takeNewName e34) mk_X2_takeNewName rfl (ck_k e30) (by decide) im_X2_takeNewName sl_X2_takeNewName lk_X2_94 rfl rfl rfl dX2_readFact_57 (Nat.le_of_ble_eq_true rfl) ⟨Nat.le_of_ble_eq_true rfl, Nat.le_of_ble_eq_true rfl⟩ ⟨Nat.le_of_ble_eq_true rfl, Nat.le_of_ble_eq_true rfl⟩ ?_
      refine r_ifeq (tgt := 75) C dX2_readFact_60 (by decide) (fun c35 => ?_) (fun c35 => ?_)
      · rw [if_pos c35] at hf0
        refine r_iconst (v := 0) C dX2_readFact_75 (by decide) ?_
        obtain rfl := so hf0
        exact r_zret C dX2_readFact_76 (Or.inl rfl)
      · rw [if_neg c35] at hf0
        refine r_aload_n C dX2_readFact_63 rfl ?_
        obtain ⟨t36, e37, hf0⟩ := ob hf0
        refine r_getR C fk_X2_36 rfl dX2_readFact_64 e37 ?_
        refine r_bipush (v := 9) C dX2_readFact_67 (by decide) ?_
        obtain ⟨u39, e38, hf0⟩ := ob hf0
        obtain ⟨t40, h41, e42, hf0⟩ := ob2 hf0
        refine r_cV (ci := 4) (rest := []) (st2 := [.int t40]) C (s_X4_take e42) mk_X4_take rfl (ck_k e38) (by decide) im_X4_take sl_X4_take lk_X2_98 rfl rfl rfl dX2_readFact_69 (Nat.le_of_ble_eq_true rfl) ⟨Nat.le_of_ble_eq_true rfl, Nat.le_of_ble_eq_true rfl⟩ ⟨Nat.le_of_ble_eq_true rfl, Nat.le_of_ble_eq_true rfl⟩ ?_
        refine r_ifne (tgt := 77) C dX2_readFact_72 (by decide) (fun c43 => ?_) (fun c43 => ?_)
        · rw [if_neg c43] at hf0
          refine r_aload_n C dX2_readFact_77 rfl ?_
          obtain ⟨t44, e45, hf0⟩ := ob hf0
          refine r_getR C fk_X2_40 rfl dX2_readFact_78 e45 ?_
          obtain ⟨t46, e47, hf0⟩ := ob hf0
          refine r_getR C fk_X2_101 rfl dX2_readFact_81 e47 ?_
          refine r_aload_n C dX2_readFact_84 rfl ?_
          obtain ⟨t48, e49, hf0⟩ := ob hf0
          refine r_getR C fk_X2_40 rfl dX2_readFact_85 e49 ?_
          obtain ⟨t50, e51, hf0⟩ := ob hf0
          refine r_getI C fk_X2_85 rfl dX2_readFact_88 e51 ?_
          refine r_aload_n C dX2_readFact_91 rfl ?_
          obtain ⟨t52, e53, hf0⟩ := ob hf0
          refine r_getR C fk_X2_40 rfl dX2_readFact_92 e53 ?_
          obtain ⟨t54, e55, hf0⟩ := ob hf0
          refine r_getI C fk_X2_104 rfl dX2_readFact_95 e55 ?_
          obtain ⟨h56, e57, hf0⟩ := ob hf0
          refine r_stI C dX2_readFact_98 e57 ?_
          refine r_iconst (v := 0) C dX2_readFact_99 (by decide) ?_
          refine r_istore_n (lv' := [(1, .int (0 : Int32)), (0, .ref v0)]) C dX2_readFact_100 (by decide) rfl rfl ?_
          obtain ⟨y58, hl101, hf0⟩ := ob hf0
          have L101 : ∀ (n : Nat) (t59 : Int32) (h60 : aH), whileL n (fun q : Int32 × aH => f_X2_readFact_b101 v0 q.1 q.2) (t59, h60) = some y58 → gW p l e (rmO 3 0 0) s m args below meth c (MQ below (eQ D cA B Hb out.2 (some (.int out.1))) args s 0 0 (fun q => B ≤ q)) D cA B Hb 2 h60 101 [(0, .ref v0), (1, .int t59)] [] 0 0 := by
            intro n
            induction n with
            | zero => intro t59 h60 hz; cases hz
            | succ n ih101 =>
              intro t59 h60 hz
              obtain ⟨x101, hf1, hk101⟩ := wl hz
              replace hf1 : f_X2_readFact_b101 v0 t59 h60 = some x101 := hf1
              unfold f_X2_readFact_b101 at hf1
              have J122 : ∀ (h61 : aH) (t62 : Int32), f_X2_readFact_j122 h61 v0 t62 = some x101 → gW p l e (rmO 3 0 0) s m args below meth c (MQ below (eQ D cA B Hb out.2 (some (.int out.1))) args s 0 0 (fun q => B ≤ q)) D cA B Hb 2 h61 122 [(0, .ref v0), (1, .int t62)] [] 0 0 := by
                intro h61 t62 hf1
                unfold f_X2_readFact_j122 at hf1
                refine r_aload_n C dX2_readFact_122 rfl ?_
                refine r_iload_n C dX2_readFact_123 rfl ?_
                obtain ⟨u64, e63, hf1⟩ := ob hf1
                obtain ⟨t65, h66, e67, hf1⟩ := ob2 hf1
                refine r_cV (ci := 2) (rest := []) (st2 := [.int t65]) C (s_X2_readValue e67) mk_X2_readValue rfl (ck_k e63) (by decide) im_X2_readValue sl_X2_readValue lk_X2_107 rfl rfl rfl dX2_readFact_124 (Nat.le_of_ble_eq_true rfl) ⟨Nat.le_of_ble_eq_true rfl, Nat.le_of_ble_eq_true rfl⟩ ⟨Nat.le_of_ble_eq_true rfl, Nat.le_of_ble_eq_true rfl⟩ ?_
                refine r_ifne (tgt := 132) C dX2_readFact_127 (by decide) (fun c68 => ?_) (fun c68 => ?_)
                · rw [if_neg c68] at hf1
                  obtain ⟨t69, e70, hf1⟩ := ob hf1
                  refine r_iinc (lv' := [(1, .int t69), (0, .ref v0)]) C dX2_readFact_132 rfl e70 (by decide) rfl ?_
                  refine r_goto (tgt := 101) C dX2_readFact_135 (by decide) ?_
                  obtain rfl := so hf1
                  refine r_subk [1, 0] (lv' := [(0, .ref v0), (1, .int t69)]) rfl ?_
                  exact ih101 t69 h66 hk101
                · rw [if_pos c68] at hf1
                  obtain rfl := so hf1
                  obtain rfl := so (show some (.inl h66 : (aH) ⊕ (aH)) = some y58 from hk101)
                  dsimp only at hf0
                  refine r_iconst (v := 0) C dX2_readFact_130 (by decide) ?_
                  obtain rfl := so hf0
                  exact r_zret C dX2_readFact_131 (Or.inl rfl)
              refine r_iload_n C dX2_readFact_101 rfl ?_
              refine r_bipush (v := 6) C dX2_readFact_102 (by decide) ?_
              refine r_icmp_gt (tgt := 138) C dX2_readFact_104 (by decide) (fun c71 => ?_) (fun c71 => ?_)
              · rw [if_pos c71] at hf1
                obtain rfl := so hf1
                obtain rfl := so (show some (.inr h60 : (aH) ⊕ (aH)) = some y58 from hk101)
                dsimp only at hf0
                refine r_subk [0] (lv' := [(0, .ref v0)]) rfl ?_
                exact J138 h60 v0 hf0
              · rw [if_neg c71] at hf1
                refine r_iload_n C dX2_readFact_107 rfl ?_
                refine r_ifeq (tgt := 122) C dX2_readFact_108 (by decide) (fun c72 => ?_) (fun c72 => ?_)
                · rw [if_pos c72] at hf1
                  exact J122 h60 t59 hf1
                · rw [if_neg c72] at hf1
                  refine r_aload_n C dX2_readFact_111 rfl ?_
                  obtain ⟨t73, e74, hf1⟩ := ob hf1
                  refine r_getR C fk_X2_36 rfl dX2_readFact_112 e74 ?_
                  obtain ⟨t75, e76, hf1⟩ := ob hf1
                  refine r_getI C fk_X2_55 rfl dX2_readFact_115 e76 ?_
                  refine r_iconst (v := 3) C dX2_readFact_118 (by decide) ?_
                  refine r_icmp_eq (tgt := 138) C dX2_readFact_119 (by decide) (fun c77 => ?_) (fun c77 => ?_)
                  · rw [if_pos c77] at hf1
                    obtain rfl := so hf1
                    obtain rfl := so (show some (.inr h60 : (aH) ⊕ (aH)) = some y58 from hk101)
                    dsimp only at hf0
                    refine r_subk [0] (lv' := [(0, .ref v0)]) rfl ?_
                    exact J138 h60 v0 hf0
                  · rw [if_neg c77] at hf1
                    exact J122 h60 t59 hf1
          refine r_subk [1, 0] (lv' := [(0, .ref v0), (1, .int (0 : Int32))]) rfl ?_
          exact L101 wN (0 : Int32) h56 hl101
        · rw [if_pos c43] at hf0
          refine r_iconst (v := 0) C dX2_readFact_75 (by decide) ?_
          obtain rfl := so hf0
          exact r_zret C dX2_readFact_76 (Or.inl rfl)
    · rw [if_neg c19] at hf0
      refine r_aload_n C dX2_readFact_31 rfl ?_
      obtain ⟨t78, e79, hf0⟩ := ob hf0
      refine r_getR C fk_X2_36 rfl dX2_readFact_32 e79 ?_
      refine r_bipush (v := 7) C dX2_readFact_35 (by decide) ?_
      obtain ⟨u81, e80, hf0⟩ := ob hf0
      obtain ⟨t82, h83, e84, hf0⟩ := ob2 hf0
      refine r_cV (ci := 4) (rest := []) (st2 := [.int t82]) C (s_X4_refuseHere e84) mk_X4_refuseHere rfl (ck_k e80) (by decide) im_X4_refuseHere sl_X4_refuseHere lk_X2_74 rfl rfl rfl dX2_readFact_37 (Nat.le_of_ble_eq_true rfl) ⟨Nat.le_of_ble_eq_true rfl, Nat.le_of_ble_eq_true rfl⟩ ⟨Nat.le_of_ble_eq_true rfl, Nat.le_of_ble_eq_true rfl⟩ ?_
      obtain ⟨t85, e86, hf0⟩ := ob hf0
      obtain ⟨rfl, e86z⟩ := rZ_k e86
      obtain rfl := so hf0
      exact r_zret C dX2_readFact_40 e86z
  · rw [if_neg c14] at hf0
    refine r_aload_n C dX2_readFact_11 rfl ?_
    obtain ⟨t87, e88, hf0⟩ := ob hf0
    refine r_getR C fk_X2_36 rfl dX2_readFact_12 e88 ?_
    refine r_bipush (v := 6) C dX2_readFact_15 (by decide) ?_
    obtain ⟨u90, e89, hf0⟩ := ob hf0
    obtain ⟨t91, h92, e93, hf0⟩ := ob2 hf0
    refine r_cV (ci := 4) (rest := []) (st2 := [.int t91]) C (s_X4_refuseHere e93) mk_X4_refuseHere rfl (ck_k e89) (by decide) im_X4_refuseHere sl_X4_refuseHere lk_X2_74 rfl rfl rfl dX2_readFact_17 (Nat.le_of_ble_eq_true rfl) ⟨Nat.le_of_ble_eq_true rfl, Nat.le_of_ble_eq_true rfl⟩ ⟨Nat.le_of_ble_eq_true rfl, Nat.le_of_ble_eq_true rfl⟩ ?_
    obtain ⟨t94, e95, hf0⟩ := ob hf0
    obtain ⟨rfl, e95z⟩ := rZ_k e95
    obtain rfl := so hf0
    exact r_zret C dX2_readFact_20 e95z
def f_X7_numberOf_j43 (h : aH) (v0 : Nat) (v1 : Int64) (v3 : Int32) (v4 : Int32) : Option ((Int32) ⊕ ((Int32) ⊕ (Unit))) := (some (v4 + (1 : Int32))).bind fun t1 => some (.inl t1)
def f_X7_numberOf_b3 (h : aH) (v0 : Nat) (v1 : Int64) (v3 : Int32) (v4 : Int32) : Option ((Int32) ⊕ ((Int32) ⊕ (Unit))) := (gI h 7 v0 3).bind fun t2 => if t2 ≤ v4 then some (.inr (.inr ())) else (gR h 7 v0 0).bind fun t3 => (lJ h t3 v4).bind fun t4 => if (lg_cmp t4 v1) = 0 then (gR h 7 v0 1).bind fun t5 => (lI h t5 v4).bind fun t6 => if t6 = v3 then some (.inr (.inl v4)) else f_X7_numberOf_j43 h v0 v1 v3 v4 else f_X7_numberOf_j43 h v0 v1 v3 v4
def f_X7_numberOf_l3 (h : aH) (v0 : Nat) (v1 : Int64) (v3 : Int32) (v4 : Int32) : Option ((Int32) ⊕ (Unit)) := whileL wN (fun q : Int32 => f_X7_numberOf_b3 h v0 v1 v3 q) v4
def f_X7_numberOf (h : aH) (v0 : Nat) (v1 : Int64) (v3 : Int32) : Option (Int32) := (f_X7_numberOf_l3 h v0 v1 v3 (0 : Int32)).bind fun e => match e with | .inl t7 => (gR h 7 v0 2).bind fun t8 => (lI h t8 t7).bind fun t9 => some t9 | .inr _ => some (-1 : Int32)
theorem s_X7_numberOf {h : aH} {v0 : Nat} {v1 : Int64} {v3 : Int32} {out : Int32} (hf0 : f_X7_numberOf h v0 v1 v3 = some out) : EV 0 yX7_numberOf cX7_numberOf 5 (some .int) h [.ref v0, .long v1, .int v3] (some (.int out)) h 0 0 := by
  refine EV.of (own := RX7) (lv0 := [(0, .ref v0), (1, .long v1), (3, .int v3)]) (by decide +kernel) rfl rfl (Nat.le_of_ble_eq_true rfl) ?_
  intro p l e s m args below meth c D cA B Hb C hin
  unfold f_X7_numberOf at hf0
  refine r_iconst (v := 0) C dX7_numberOf_0 (by decide) ?_
  refine r_istore (lv' := [(4, .int (0 : Int32)), (0, .ref v0), (1, .long v1), (3, .int v3)]) C dX7_numberOf_1 (by decide) rfl rfl ?_
  obtain ⟨y1, hl3, hf0⟩ := ob hf0
  have L3 : ∀ (n : Nat) (t2 : Int32), whileL n (fun q : Int32 => f_X7_numberOf_b3 h v0 v1 v3 q) t2 = some y1 → gW p l e (rmO 0 0 0) s m args below meth c (MQ below (eQ D cA B Hb h (some (.int out))) args s 0 0 (fun q => B ≤ q)) D cA B Hb 5 h 3 [(0, .ref v0), (1, .long v1), (3, .int v3), (4, .int t2)] [] 0 0 := by
    intro n
    induction n with
    | zero => intro t2 hz; cases hz
    | succ n ih3 =>
      intro t2 hz
      obtain ⟨x3, hf1, hk3⟩ := wl hz
      replace hf1 : f_X7_numberOf_b3 h v0 v1 v3 t2 = some x3 := hf1
      unfold f_X7_numberOf_b3 at hf1
      have J43 : ∀ (t3 : Int32), f_X7_numberOf_j43 h v0 v1 v3 t3 = some x3 → gW p l e (rmO 0 0 0) s m args below meth c (MQ below (eQ D cA B Hb h (some (.int out))) args s 0 0 (fun q => B ≤ q)) D cA B Hb 5 h 43 [(0, .ref v0), (1, .long v1), (3, .int v3), (4, .int t3)] [] 0 0 := by
        intro t3 hf1
        unfold f_X7_numberOf_j43 at hf1
        obtain ⟨t4, e5, hf1⟩ := ob hf1
        refine r_iinc (lv' := [(4, .int t4), (0, .ref v0), (1, .long v1), (3, .int v3)]) C dX7_numberOf_43 rfl e5 (by decide) rfl ?_
        refine r_goto (tgt := 3) C dX7_numberOf_46 (by decide) ?_
        obtain rfl := so hf1
        refine r_subk [1, 2, 3, 0] (lv' := [(0, .ref v0), (1, .long v1), (3, .int v3), (4, .int t4)]) rfl ?_
        exact ih3 t4 hk3
      refine r_iload C dX7_numberOf_3 rfl ?_
      refine r_aload_n C dX7_numberOf_5 rfl ?_
      obtain ⟨t6, e7, hf1⟩ := ob hf1
      refine r_getI C fk_X7_22 rfl dX7_numberOf_6 e7 ?_
      refine r_icmp_ge (tgt := 49) C dX7_numberOf_9 (by decide) (fun c8 => ?_) (fun c8 => ?_)
      · rw [if_pos c8] at hf1
        obtain rfl := so hf1
        obtain rfl := so (show some (.inr () : (Int32) ⊕ (Unit)) = some y1 from hk3)
        dsimp only at hf0
        refine r_iconst (v := -1) C dX7_numberOf_49 (by decide) ?_
        obtain rfl := so hf0
        exact r_iret C dX7_numberOf_50
      · rw [if_neg c8] at hf1
        refine r_aload_n C dX7_numberOf_12 rfl ?_
        obtain ⟨t9, e10, hf1⟩ := ob hf1
        refine r_getR C fk_X7_9 rfl dX7_numberOf_13 e10 ?_
        refine r_iload C dX7_numberOf_16 rfl ?_
        obtain ⟨t11, e12, hf1⟩ := ob hf1
        refine r_ldJ C dX7_numberOf_18 e12 ?_
        refine r_lload_n C dX7_numberOf_19 rfl ?_
        refine r_lcmp C dX7_numberOf_20 ?_
        refine r_ifne (tgt := 43) C dX7_numberOf_21 (by decide) (fun c13 => ?_) (fun c13 => ?_)
        · rw [if_neg c13] at hf1
          exact J43 t2 hf1
        · rw [if_pos c13] at hf1
          refine r_aload_n C dX7_numberOf_24 rfl ?_
          obtain ⟨t14, e15, hf1⟩ := ob hf1
          refine r_getR C fk_X7_15 rfl dX7_numberOf_25 e15 ?_
          refine r_iload C dX7_numberOf_28 rfl ?_
          obtain ⟨t16, e17, hf1⟩ := ob hf1
          refine r_ldI C dX7_numberOf_30 e17 ?_
          refine r_iload_n C dX7_numberOf_31 rfl ?_
          refine r_icmp_ne (tgt := 43) C dX7_numberOf_32 (by decide) (fun c18 => ?_) (fun c18 => ?_)
          · rw [if_neg c18] at hf1
            exact J43 t2 hf1
          · rw [if_pos c18] at hf1
            obtain rfl := so hf1
            obtain rfl := so (show some (.inl t2 : (Int32) ⊕ (Unit)) = some y1 from hk3)
            dsimp only at hf0
            refine r_aload_n C dX7_numberOf_35 rfl ?_
            obtain ⟨t19, e20, hf0⟩ := ob hf0
            refine r_getR C fk_X7_19 rfl dX7_numberOf_36 e20 ?_
            refine r_iload C dX7_numberOf_39 rfl ?_
            obtain ⟨t21, e22, hf0⟩ := ob hf0
            refine r_ldI C dX7_numberOf_41 e22 ?_
            obtain rfl := so hf0
            exact r_iret C dX7_numberOf_42
  refine r_subk [1, 2, 3, 0] (lv' := [(0, .ref v0), (1, .long v1), (3, .int v3), (4, .int (0 : Int32))]) rfl ?_
  exact L3 wN (0 : Int32) hl3
def f_X4_seekName (h : aH) (v0 : Nat) (v1 : Nat) (v2 : Int32) : Option (Int32 × aH) := (gI h 4 v0 10).bind fun t1 => if t1 = (6 : Int32) then (gJ h 4 v0 11).bind fun t2 => (ck h 7 v1).bind fun _ => (f_X7_numberOf h v1 t2 v2).bind fun t3 => if t3 = (-1 : Int32) then (ck h 4 v0).bind fun _ => bd2 (f_X4_refuseHere h v0 (3 : Int32)) fun t4 h5 => some (t3, h5) else some (t3, h) else (ck h 4 v0).bind fun _ => bd2 (f_X4_refuseHere h v0 (2 : Int32)) fun t6 h7 => some ((-1 : Int32), h7)
theorem s_X4_seekName {h : aH} {v0 : Nat} {v1 : Nat} {v2 : Int32} {out : Int32 × aH} (hf0 : f_X4_seekName h v0 v1 v2 = some out) : EV 1 yX4_seekName cX4_seekName 4 (some .int) h [.ref v0, .ref v1, .int v2] (some (.int out.1)) out.2 0 0 := by
  refine EV.of (own := RX4) (lv0 := [(0, .ref v0), (1, .ref v1), (2, .int v2)]) (by decide +kernel) rfl rfl (Nat.le_of_ble_eq_true rfl) ?_
  intro p l e s m args below meth c D cA B Hb C hin
  unfold f_X4_seekName at hf0
  refine r_aload_n C dX4_seekName_0 rfl ?_
  obtain ⟨t1, e2, hf0⟩ := ob hf0
  refine r_getI C fk_X4_45 rfl dX4_seekName_1 e2 ?_
  refine r_bipush (v := 6) C dX4_seekName_4 (by decide) ?_
  refine r_icmp_eq (tgt := 17) C dX4_seekName_6 (by decide) (fun c3 => ?_) (fun c3 => ?_)
  · rw [if_pos c3] at hf0
    refine r_aload_n C dX4_seekName_17 rfl ?_
    refine r_aload_n C dX4_seekName_18 rfl ?_
    obtain ⟨t4, e5, hf0⟩ := ob hf0
    refine r_getJ C fk_X4_48 rfl dX4_seekName_19 e5 ?_
    refine r_iload_n C dX4_seekName_22 rfl ?_
    obtain ⟨u7, e6, hf0⟩ := ob hf0
    obtain ⟨t8, e9, hf0⟩ := ob hf0
    refine r_cV (ci := 7) (rest := []) (st2 := [.int t8]) C (s_X7_numberOf e9) mk_X7_numberOf rfl (ck_k e6) (by decide) im_X7_numberOf sl_X7_numberOf lk_X4_102 rfl rfl rfl dX4_seekName_23 (Nat.le_of_ble_eq_true rfl) ⟨Nat.le_of_ble_eq_true rfl, Nat.le_of_ble_eq_true rfl⟩ ⟨Nat.le_of_ble_eq_true rfl, Nat.le_of_ble_eq_true rfl⟩ ?_
    refine r_istore_n (lv' := [(3, .int t8), (0, .ref v0), (1, .ref v1), (2, .int v2)]) C dX4_seekName_26 (by decide) rfl rfl ?_
    refine r_iload_n C dX4_seekName_27 rfl ?_
    refine r_iconst (v := -1) C dX4_seekName_28 (by decide) ?_
    refine r_icmp_ne (tgt := 38) C dX4_seekName_29 (by decide) (fun c10 => ?_) (fun c10 => ?_)
    · rw [if_neg c10] at hf0
      refine r_iload_n C dX4_seekName_38 rfl ?_
      obtain rfl := so hf0
      exact r_iret C dX4_seekName_39
    · rw [if_pos c10] at hf0
      refine r_aload_n C dX4_seekName_32 rfl ?_
      refine r_iconst (v := 3) C dX4_seekName_33 (by decide) ?_
      obtain ⟨u12, e11, hf0⟩ := ob hf0
      obtain ⟨t13, h14, e15, hf0⟩ := ob2 hf0
      refine r_cV (ci := 4) (rest := []) (st2 := [.int t13]) C (s_X4_refuseHere e15) mk_X4_refuseHere rfl (ck_k e11) (by decide) im_X4_refuseHere sl_X4_refuseHere lk_X4_99 rfl rfl rfl dX4_seekName_34 (Nat.le_of_ble_eq_true rfl) ⟨Nat.le_of_ble_eq_true rfl, Nat.le_of_ble_eq_true rfl⟩ ⟨Nat.le_of_ble_eq_true rfl, Nat.le_of_ble_eq_true rfl⟩ ?_
      refine r_pop C dX4_seekName_37 rfl ?_
      refine r_iload_n C dX4_seekName_38 rfl ?_
      obtain rfl := so hf0
      exact r_iret C dX4_seekName_39
  · rw [if_neg c3] at hf0
    refine r_aload_n C dX4_seekName_9 rfl ?_
    refine r_iconst (v := 2) C dX4_seekName_10 (by decide) ?_
    obtain ⟨u17, e16, hf0⟩ := ob hf0
    obtain ⟨t18, h19, e20, hf0⟩ := ob2 hf0
    refine r_cV (ci := 4) (rest := []) (st2 := [.int t18]) C (s_X4_refuseHere e20) mk_X4_refuseHere rfl (ck_k e16) (by decide) im_X4_refuseHere sl_X4_refuseHere lk_X4_99 rfl rfl rfl dX4_seekName_11 (Nat.le_of_ble_eq_true rfl) ⟨Nat.le_of_ble_eq_true rfl, Nat.le_of_ble_eq_true rfl⟩ ⟨Nat.le_of_ble_eq_true rfl, Nat.le_of_ble_eq_true rfl⟩ ?_
    refine r_pop C dX4_seekName_14 rfl ?_
    refine r_iconst (v := -1) C dX4_seekName_15 (by decide) ?_
    obtain rfl := so hf0
    exact r_iret C dX4_seekName_16
def f_X4_takeName (h : aH) (v0 : Nat) (v1 : Nat) (v2 : Int32) : Option (Int32 × aH) := (ck h 4 v0).bind fun _ => bd2 (f_X4_seekName h v0 v1 v2) fun t1 h2 => if t1 = (-1 : Int32) then some (t1, h2) else (ck h2 4 v0).bind fun _ => (f_X4_advance h2 v0).bind fun h3 => some (t1, h3)
theorem s_X4_takeName {h : aH} {v0 : Nat} {v1 : Nat} {v2 : Int32} {out : Int32 × aH} (hf0 : f_X4_takeName h v0 v1 v2 = some out) : EV 2 yX4_takeName cX4_takeName 4 (some .int) h [.ref v0, .ref v1, .int v2] (some (.int out.1)) out.2 0 0 := by
  refine EV.of (own := RX4) (lv0 := [(0, .ref v0), (1, .ref v1), (2, .int v2)]) (by decide +kernel) rfl rfl (Nat.le_of_ble_eq_true rfl) ?_
  intro p l e s m args below meth c D cA B Hb C hin
  unfold f_X4_takeName at hf0
  refine r_aload_n C dX4_takeName_0 rfl ?_
  refine r_aload_n C dX4_takeName_1 rfl ?_
  refine r_iload_n C dX4_takeName_2 rfl ?_
  obtain ⟨u2, e1, hf0⟩ := ob hf0
  obtain ⟨t3, h4, e5, hf0⟩ := ob2 hf0
  refine r_cV (ci := 4) (rest := []) (st2 := [.int t3]) C (s_X4_seekName e5) mk_X4_seekName rfl (ck_k e1) (by decide) im_X4_seekName sl_X4_seekName lk_X4_108 rfl rfl rfl dX4_takeName_3 (Nat.le_of_ble_eq_true rfl) ⟨Nat.le_of_ble_eq_true rfl, Nat.le_of_ble_eq_true rfl⟩ ⟨Nat.le_of_ble_eq_true rfl, Nat.le_of_ble_eq_true rfl⟩ ?_
  refine r_istore_n (lv' := [(3, .int t3), (0, .ref v0), (1, .ref v1), (2, .int v2)]) C dX4_takeName_6 (by decide) rfl rfl ?_
  refine r_iload_n C dX4_takeName_7 rfl ?_
  refine r_iconst (v := -1) C dX4_takeName_8 (by decide) ?_
  refine r_icmp_eq (tgt := 16) C dX4_takeName_9 (by decide) (fun c6 => ?_) (fun c6 => ?_)
  · rw [if_pos c6] at hf0
    refine r_iload_n C dX4_takeName_16 rfl ?_
    obtain rfl := so hf0
    exact r_iret C dX4_takeName_17
  · rw [if_neg c6] at hf0
    refine r_aload_n C dX4_takeName_12 rfl ?_
    obtain ⟨u8, e7, hf0⟩ := ob hf0
    obtain ⟨h9, e10, hf0⟩ := ob hf0
    refine r_cV (ci := 4) (rest := []) (st2 := []) C (s_X4_advance e10) mk_X4_advance rfl (ck_k e7) (by decide) im_X4_advance sl_X4_advance lk_X4_77 rfl rfl rfl dX4_takeName_13 (Nat.le_of_ble_eq_true rfl) ⟨Nat.le_of_ble_eq_true rfl, Nat.le_of_ble_eq_true rfl⟩ ⟨Nat.le_of_ble_eq_true rfl, Nat.le_of_ble_eq_true rfl⟩ ?_
    refine r_iload_n C dX4_takeName_16 rfl ?_
    obtain rfl := so hf0
    exact r_iret C dX4_takeName_17
def f_X2_readNever (h : aH) (v0 : Nat) : Option (Int32 × aH) := (gR h 2 v0 6).bind fun t1 => (gI h 1 t1 16).bind fun t2 => if t2 ≤ 0 then (gR h 2 v0 0).bind fun t3 => (ck h 4 t3).bind fun _ => (f_X4_advance h t3).bind fun h4 => (gR h4 2 v0 0).bind fun t5 => (gR h4 2 v0 6).bind fun t6 => (gR h4 1 t6 0).bind fun t7 => (ck h4 4 t5).bind fun _ => bd2 (f_X4_takeName h4 t5 t7 (1 : Int32)) fun t8 h9 => if t8 = (-1 : Int32) then some ((0 : Int32), h9) else (gR h9 2 v0 0).bind fun t10 => (gR h9 2 v0 6).bind fun t11 => (gR h9 1 t11 0).bind fun t12 => (ck h9 4 t10).bind fun _ => bd2 (f_X4_seekName h9 t10 t12 (1 : Int32)) fun t13 h14 => if t13 = (-1 : Int32) then some ((0 : Int32), h14) else (gR h14 2 v0 6).bind fun t15 => (gR h14 1 t15 3).bind fun t16 => (lI h14 t16 t8).bind fun t17 => (gR h14 2 v0 6).bind fun t18 => (gR h14 1 t18 3).bind fun t19 => (lI h14 t19 t13).bind fun t20 => if t17 = t20 then (gR h14 2 v0 0).bind fun t33 => (ck h14 4 t33).bind fun _ => bd2 (f_X4_refuseHere h14 t33 (5 : Int32)) fun t34 h35 => (rZ t34).bind fun t36 => some (t36, h35) else (gR h14 2 v0 2).bind fun t21 => (lI h14 t21 t8).bind fun t22 => (sI h14 t21 t8 (t22 ||| ((1 : Int32) <<< (t13 &&& 31)))).bind fun h23 => (gR h23 2 v0 2).bind fun t24 => (lI h23 t24 t13).bind fun t25 => (sI h23 t24 t13 (t25 ||| ((1 : Int32) <<< (t8 &&& 31)))).bind fun h26 => (gR h26 2 v0 0).bind fun t27 => (ck h26 4 t27).bind fun _ => (f_X4_advance h26 t27).bind fun h28 => (gR h28 2 v0 0).bind fun t29 => (ck h28 4 t29).bind fun _ => bd2 (f_X4_take h28 t29 (3 : Int32)) fun t30 h31 => (rZ t30).bind fun t32 => some (t32, h31) else (gR h 2 v0 0).bind fun t37 => (ck h 4 t37).bind fun _ => bd2 (f_X4_refuseHere h t37 (7 : Int32)) fun t38 h39 => (rZ t38).bind fun t40 => some (t40, h39)
theorem s_X2_readNever {h : aH} {v0 : Nat} {out : Int32 × aH} (hf0 : f_X2_readNever h v0 = some out) : EV 3 yX2_readNever cX2_readNever 3 (some .boolean) h [.ref v0] (some (.int out.1)) out.2 0 0 := by
  refine EV.of (own := RX2) (lv0 := [(0, .ref v0)]) (by decide +kernel) rfl rfl (Nat.le_of_ble_eq_true rfl) ?_
  intro p l e s m args below meth c D cA B Hb C hin
  unfold f_X2_readNever at hf0
  refine r_aload_n C dX2_readNever_0 rfl ?_
  obtain ⟨t1, e2, hf0⟩ := ob hf0
  refine r_getR C fk_X2_40 rfl dX2_readNever_1 e2 ?_
  obtain ⟨t3, e4, hf0⟩ := ob hf0
  refine r_getI C fk_X2_88 rfl dX2_readNever_4 e4 ?_
  refine r_ifle (tgt := 20) C dX2_readNever_7 (by decide) (fun c5 => ?_) (fun c5 => ?_)
  · rw [if_pos c5] at hf0
    refine r_aload_n C dX2_readNever_20 rfl ?_
    obtain ⟨t6, e7, hf0⟩ := ob hf0
    refine r_getR C fk_X2_36 rfl dX2_readNever_21 e7 ?_
    obtain ⟨u9, e8, hf0⟩ := ob hf0
    obtain ⟨h10, e11, hf0⟩ := ob hf0
    refine r_cV (ci := 4) (rest := []) (st2 := []) C (s_X4_advance e11) mk_X4_advance rfl (ck_k e8) (by decide) im_X4_advance sl_X4_advance lk_X2_91 rfl rfl rfl dX2_readNever_24 (Nat.le_of_ble_eq_true rfl) ⟨Nat.le_of_ble_eq_true rfl, Nat.le_of_ble_eq_true rfl⟩ ⟨Nat.le_of_ble_eq_true rfl, Nat.le_of_ble_eq_true rfl⟩ ?_
    refine r_aload_n C dX2_readNever_27 rfl ?_
    obtain ⟨t12, e13, hf0⟩ := ob hf0
    refine r_getR C fk_X2_36 rfl dX2_readNever_28 e13 ?_
    refine r_aload_n C dX2_readNever_31 rfl ?_
    obtain ⟨t14, e15, hf0⟩ := ob hf0
    refine r_getR C fk_X2_40 rfl dX2_readNever_32 e15 ?_
    obtain ⟨t16, e17, hf0⟩ := ob hf0
    refine r_getR C fk_X2_116 rfl dX2_readNever_35 e17 ?_
    refine r_iconst (v := 1) C dX2_readNever_38 (by decide) ?_
    obtain ⟨u19, e18, hf0⟩ := ob hf0
    obtain ⟨t20, h21, e22, hf0⟩ := ob2 hf0
    refine r_cV (ci := 4) (rest := []) (st2 := [.int t20]) C (s_X4_takeName e22) mk_X4_takeName rfl (ck_k e18) (by decide) im_X4_takeName sl_X4_takeName lk_X2_146 rfl rfl rfl dX2_readNever_39 (Nat.le_of_ble_eq_true rfl) ⟨Nat.le_of_ble_eq_true rfl, Nat.le_of_ble_eq_true rfl⟩ ⟨Nat.le_of_ble_eq_true rfl, Nat.le_of_ble_eq_true rfl⟩ ?_
    refine r_istore_n (lv' := [(1, .int t20), (0, .ref v0)]) C dX2_readNever_42 (by decide) rfl rfl ?_
    refine r_iload_n C dX2_readNever_43 rfl ?_
    refine r_iconst (v := -1) C dX2_readNever_44 (by decide) ?_
    refine r_icmp_ne (tgt := 50) C dX2_readNever_45 (by decide) (fun c23 => ?_) (fun c23 => ?_)
    · rw [if_neg c23] at hf0
      refine r_aload_n C dX2_readNever_50 rfl ?_
      obtain ⟨t24, e25, hf0⟩ := ob hf0
      refine r_getR C fk_X2_36 rfl dX2_readNever_51 e25 ?_
      refine r_aload_n C dX2_readNever_54 rfl ?_
      obtain ⟨t26, e27, hf0⟩ := ob hf0
      refine r_getR C fk_X2_40 rfl dX2_readNever_55 e27 ?_
      obtain ⟨t28, e29, hf0⟩ := ob hf0
      refine r_getR C fk_X2_116 rfl dX2_readNever_58 e29 ?_
      refine r_iconst (v := 1) C dX2_readNever_61 (by decide) ?_
      obtain ⟨u31, e30, hf0⟩ := ob hf0
      obtain ⟨t32, h33, e34, hf0⟩ := ob2 hf0
      refine r_cV (ci := 4) (rest := []) (st2 := [.int t32]) C (s_X4_seekName e34) mk_X4_seekName rfl (ck_k e30) (by decide) im_X4_seekName sl_X4_seekName lk_X2_150 rfl rfl rfl dX2_readNever_62 (Nat.le_of_ble_eq_true rfl) ⟨Nat.le_of_ble_eq_true rfl, Nat.le_of_ble_eq_true rfl⟩ ⟨Nat.le_of_ble_eq_true rfl, Nat.le_of_ble_eq_true rfl⟩ ?_
      refine r_istore_n (lv' := [(2, .int t32), (1, .int t20), (0, .ref v0)]) C dX2_readNever_65 (by decide) rfl rfl ?_
      refine r_iload_n C dX2_readNever_66 rfl ?_
      refine r_iconst (v := -1) C dX2_readNever_67 (by decide) ?_
      refine r_icmp_ne (tgt := 73) C dX2_readNever_68 (by decide) (fun c35 => ?_) (fun c35 => ?_)
      · rw [if_neg c35] at hf0
        refine r_aload_n C dX2_readNever_73 rfl ?_
        obtain ⟨t36, e37, hf0⟩ := ob hf0
        refine r_getR C fk_X2_40 rfl dX2_readNever_74 e37 ?_
        obtain ⟨t38, e39, hf0⟩ := ob hf0
        refine r_getR C fk_X2_130 rfl dX2_readNever_77 e39 ?_
        refine r_iload_n C dX2_readNever_80 rfl ?_
        obtain ⟨t40, e41, hf0⟩ := ob hf0
        refine r_ldI C dX2_readNever_81 e41 ?_
        refine r_aload_n C dX2_readNever_82 rfl ?_
        obtain ⟨t42, e43, hf0⟩ := ob hf0
        refine r_getR C fk_X2_40 rfl dX2_readNever_83 e43 ?_
        obtain ⟨t44, e45, hf0⟩ := ob hf0
        refine r_getR C fk_X2_130 rfl dX2_readNever_86 e45 ?_
        refine r_iload_n C dX2_readNever_89 rfl ?_
        obtain ⟨t46, e47, hf0⟩ := ob hf0
        refine r_ldI C dX2_readNever_90 e47 ?_
        refine r_icmp_ne (tgt := 103) C dX2_readNever_91 (by decide) (fun c48 => ?_) (fun c48 => ?_)
        · rw [if_neg c48] at hf0
          refine r_aload_n C dX2_readNever_103 rfl ?_
          obtain ⟨t49, e50, hf0⟩ := ob hf0
          refine r_getR C fk_X2_18 rfl dX2_readNever_104 e50 ?_
          refine r_iload_n C dX2_readNever_107 rfl ?_
          refine r_dup2 C dX2_readNever_108 rfl rfl ?_
          obtain ⟨t51, e52, hf0⟩ := ob hf0
          refine r_ldI C dX2_readNever_109 e52 ?_
          refine r_iconst (v := 1) C dX2_readNever_110 (by decide) ?_
          refine r_iload_n C dX2_readNever_111 rfl ?_
          refine r_ishl C dX2_readNever_112 ?_
          refine r_ior C dX2_readNever_113 ?_
          obtain ⟨h53, e54, hf0⟩ := ob hf0
          refine r_stI C dX2_readNever_114 e54 ?_
          refine r_aload_n C dX2_readNever_115 rfl ?_
          obtain ⟨t55, e56, hf0⟩ := ob hf0
          refine r_getR C fk_X2_18 rfl dX2_readNever_116 e56 ?_
          refine r_iload_n C dX2_readNever_119 rfl ?_
          refine r_dup2 C dX2_readNever_120 rfl rfl ?_
          obtain ⟨t57, e58, hf0⟩ := ob hf0
          refine r_ldI C dX2_readNever_121 e58 ?_
          refine r_iconst (v := 1) C dX2_readNever_122 (by decide) ?_
          refine r_iload_n C dX2_readNever_123 rfl ?_
          refine r_ishl C dX2_readNever_124 ?_
          refine r_ior C dX2_readNever_125 ?_
          obtain ⟨h59, e60, hf0⟩ := ob hf0
          refine r_stI C dX2_readNever_126 e60 ?_
          refine r_aload_n C dX2_readNever_127 rfl ?_
          obtain ⟨t61, e62, hf0⟩ := ob hf0
          refine r_getR C fk_X2_36 rfl dX2_readNever_128 e62 ?_
          obtain ⟨u64, e63, hf0⟩ := ob hf0
          obtain ⟨h65, e66, hf0⟩ := ob hf0
          refine r_cV (ci := 4) (rest := []) (st2 := []) C (s_X4_advance e66) mk_X4_advance rfl (ck_k e63) (by decide) im_X4_advance sl_X4_advance lk_X2_91 rfl rfl rfl dX2_readNever_131 (Nat.le_of_ble_eq_true rfl) ⟨Nat.le_of_ble_eq_true rfl, Nat.le_of_ble_eq_true rfl⟩ ⟨Nat.le_of_ble_eq_true rfl, Nat.le_of_ble_eq_true rfl⟩ ?_
          refine r_aload_n C dX2_readNever_134 rfl ?_
          obtain ⟨t67, e68, hf0⟩ := ob hf0
          refine r_getR C fk_X2_36 rfl dX2_readNever_135 e68 ?_
          refine r_iconst (v := 3) C dX2_readNever_138 (by decide) ?_
          obtain ⟨u70, e69, hf0⟩ := ob hf0
          obtain ⟨t71, h72, e73, hf0⟩ := ob2 hf0
          refine r_cV (ci := 4) (rest := []) (st2 := [.int t71]) C (s_X4_take e73) mk_X4_take rfl (ck_k e69) (by decide) im_X4_take sl_X4_take lk_X2_98 rfl rfl rfl dX2_readNever_139 (Nat.le_of_ble_eq_true rfl) ⟨Nat.le_of_ble_eq_true rfl, Nat.le_of_ble_eq_true rfl⟩ ⟨Nat.le_of_ble_eq_true rfl, Nat.le_of_ble_eq_true rfl⟩ ?_
          obtain ⟨t74, e75, hf0⟩ := ob hf0
          obtain ⟨rfl, e75z⟩ := rZ_k e75
          obtain rfl := so hf0
          exact r_zret C dX2_readNever_142 e75z
        · rw [if_pos c48] at hf0
          refine r_aload_n C dX2_readNever_94 rfl ?_
          obtain ⟨t76, e77, hf0⟩ := ob hf0
          refine r_getR C fk_X2_36 rfl dX2_readNever_95 e77 ?_
          refine r_iconst (v := 5) C dX2_readNever_98 (by decide) ?_
          obtain ⟨u79, e78, hf0⟩ := ob hf0
          obtain ⟨t80, h81, e82, hf0⟩ := ob2 hf0
          refine r_cV (ci := 4) (rest := []) (st2 := [.int t80]) C (s_X4_refuseHere e82) mk_X4_refuseHere rfl (ck_k e78) (by decide) im_X4_refuseHere sl_X4_refuseHere lk_X2_74 rfl rfl rfl dX2_readNever_99 (Nat.le_of_ble_eq_true rfl) ⟨Nat.le_of_ble_eq_true rfl, Nat.le_of_ble_eq_true rfl⟩ ⟨Nat.le_of_ble_eq_true rfl, Nat.le_of_ble_eq_true rfl⟩ ?_
          obtain ⟨t83, e84, hf0⟩ := ob hf0
          obtain ⟨rfl, e84z⟩ := rZ_k e84
          obtain rfl := so hf0
          exact r_zret C dX2_readNever_102 e84z
      · rw [if_pos c35] at hf0
        refine r_iconst (v := 0) C dX2_readNever_71 (by decide) ?_
        obtain rfl := so hf0
        exact r_zret C dX2_readNever_72 (Or.inl rfl)
    · rw [if_pos c23] at hf0
      refine r_iconst (v := 0) C dX2_readNever_48 (by decide) ?_
      obtain rfl := so hf0
      exact r_zret C dX2_readNever_49 (Or.inl rfl)
  · rw [if_neg c5] at hf0
    refine r_aload_n C dX2_readNever_10 rfl ?_
    obtain ⟨t85, e86, hf0⟩ := ob hf0
    refine r_getR C fk_X2_36 rfl dX2_readNever_11 e86 ?_
    refine r_bipush (v := 7) C dX2_readNever_14 (by decide) ?_
    obtain ⟨u88, e87, hf0⟩ := ob hf0
    obtain ⟨t89, h90, e91, hf0⟩ := ob2 hf0
    refine r_cV (ci := 4) (rest := []) (st2 := [.int t89]) C (s_X4_refuseHere e91) mk_X4_refuseHere rfl (ck_k e87) (by decide) im_X4_refuseHere sl_X4_refuseHere lk_X2_74 rfl rfl rfl dX2_readNever_16 (Nat.le_of_ble_eq_true rfl) ⟨Nat.le_of_ble_eq_true rfl, Nat.le_of_ble_eq_true rfl⟩ ⟨Nat.le_of_ble_eq_true rfl, Nat.le_of_ble_eq_true rfl⟩ ?_
    obtain ⟨t92, e93, hf0⟩ := ob hf0
    obtain ⟨rfl, e93z⟩ := rZ_k e93
    obtain rfl := so hf0
    exact r_zret C dX2_readNever_19 e93z
def f_X2_takeNames_j29 (h : aH) (v0 : Nat) (v1 : Int32) (v2 : Int32) (v3 : Int32) (v4 : Int32) : Option ((Int32 × Int32 × aH) ⊕ ((aH) ⊕ (aH) ⊕ (Int32 × aH))) := (gR h 2 v0 0).bind fun t1 => (gR h 2 v0 6).bind fun t2 => (gR h 1 t2 0).bind fun t3 => (ck h 4 t1).bind fun _ => bd2 (f_X4_seekName h t1 t3 v1) fun t4 h5 => if t4 = (-1 : Int32) then some (.inr (.inl h5)) else if ((v3 >>> (t4 &&& 31)) &&& (1 : Int32)) = 0 then (some (v3 ||| ((1 : Int32) <<< (t4 &&& 31)))).bind fun t6 => (gR h5 2 v0 0).bind fun t7 => (ck h5 4 t7).bind fun _ => (f_X4_advance h5 t7).bind fun h8 => (some (v4 + (1 : Int32))).bind fun t9 => some (.inl (t6, t9, h8)) else some (.inr (.inr (.inl h5)))
def f_X2_takeNames_b5 (v0 : Nat) (v1 : Int32) (v2 : Int32) (v3 : Int32) (v4 : Int32) (h : aH) : Option ((Int32 × Int32 × aH) ⊕ ((aH) ⊕ (aH) ⊕ (Int32 × aH))) := if (901 : Int32) ≤ v4 then some (.inr (.inr (.inr (v3, h)))) else if v4 = 0 then f_X2_takeNames_j29 h v0 v1 v2 v3 v4 else (gR h 2 v0 0).bind fun t10 => (gI h 4 t10 10).bind fun t11 => if t11 = v2 then some (.inr (.inr (.inr (v3, h)))) else f_X2_takeNames_j29 h v0 v1 v2 v3 v4
def f_X2_takeNames_l5 (v0 : Nat) (v1 : Int32) (v2 : Int32) (v3 : Int32) (v4 : Int32) (h : aH) : Option ((aH) ⊕ (aH) ⊕ (Int32 × aH)) := whileL wN (fun q : Int32 × Int32 × aH => f_X2_takeNames_b5 v0 v1 v2 q.1 q.2.1 q.2.2) (v3, v4, h)
def f_X2_takeNames (h : aH) (v0 : Nat) (v1 : Int32) (v2 : Int32) : Option (Int32 × aH) := (f_X2_takeNames_l5 v0 v1 v2 (0 : Int32) (0 : Int32) h).bind fun e => match e with | .inl h12 => some ((0 : Int32), h12) | .inr (.inl h13) => (gR h13 2 v0 0).bind fun t14 => (ck h13 4 t14).bind fun _ => bd2 (f_X4_refuseHere h13 t14 (5 : Int32)) fun t15 h16 => some ((0 : Int32), h16) | .inr (.inr (t17, h18)) => some (t17, h18)
theorem s_X2_takeNames {h : aH} {v0 : Nat} {v1 : Int32} {v2 : Int32} {out : Int32 × aH} (hf0 : f_X2_takeNames h v0 v1 v2 = some out) : EV 2 yX2_takeNames cX2_takeNames 6 (some .int) h [.ref v0, .int v1, .int v2] (some (.int out.1)) out.2 0 0 := by
  refine EV.of (own := RX2) (lv0 := [(0, .ref v0), (1, .int v1), (2, .int v2)]) (by decide +kernel) rfl rfl (Nat.le_of_ble_eq_true rfl) ?_
  intro p l e s m args below meth c D cA B Hb C hin
  unfold f_X2_takeNames at hf0
  refine r_iconst (v := 0) C dX2_takeNames_0 (by decide) ?_
  refine r_istore_n (lv' := [(3, .int (0 : Int32)), (0, .ref v0), (1, .int v1), (2, .int v2)]) C dX2_takeNames_1 (by decide) rfl rfl ?_
  refine r_iconst (v := 0) C dX2_takeNames_2 (by decide) ?_
  refine r_istore (lv' := [(4, .int (0 : Int32)), (3, .int (0 : Int32)), (0, .ref v0), (1, .int v1), (2, .int v2)]) C dX2_takeNames_3 (by decide) rfl rfl ?_
  obtain ⟨y1, hl5, hf0⟩ := ob hf0
  have L5 : ∀ (n : Nat) (t2 : Int32) (t3 : Int32) (h4 : aH), whileL n (fun q : Int32 × Int32 × aH => f_X2_takeNames_b5 v0 v1 v2 q.1 q.2.1 q.2.2) (t2, t3, h4) = some y1 → gW p l e (rmO 2 0 0) s m args below meth c (MQ below (eQ D cA B Hb out.2 (some (.int out.1))) args s 0 0 (fun q => B ≤ q)) D cA B Hb 6 h4 5 [(0, .ref v0), (1, .int v1), (2, .int v2), (3, .int t2), (4, .int t3)] [] 0 0 := by
    intro n
    induction n with
    | zero => intro t2 t3 h4 hz; cases hz
    | succ n ih5 =>
      intro t2 t3 h4 hz
      obtain ⟨x5, hf1, hk5⟩ := wl hz
      replace hf1 : f_X2_takeNames_b5 v0 v1 v2 t2 t3 h4 = some x5 := hf1
      unfold f_X2_takeNames_b5 at hf1
      have J29 : ∀ (h5 : aH) (t6 : Int32) (t7 : Int32), f_X2_takeNames_j29 h5 v0 v1 v2 t6 t7 = some x5 → gW p l e (rmO 2 0 0) s m args below meth c (MQ below (eQ D cA B Hb out.2 (some (.int out.1))) args s 0 0 (fun q => B ≤ q)) D cA B Hb 6 h5 29 [(0, .ref v0), (1, .int v1), (2, .int v2), (3, .int t6), (4, .int t7)] [] 0 0 := by
        intro h5 t6 t7 hf1
        unfold f_X2_takeNames_j29 at hf1
        refine r_aload_n C dX2_takeNames_29 rfl ?_
        obtain ⟨t8, e9, hf1⟩ := ob hf1
        refine r_getR C fk_X2_36 rfl dX2_takeNames_30 e9 ?_
        refine r_aload_n C dX2_takeNames_33 rfl ?_
        obtain ⟨t10, e11, hf1⟩ := ob hf1
        refine r_getR C fk_X2_40 rfl dX2_takeNames_34 e11 ?_
        obtain ⟨t12, e13, hf1⟩ := ob hf1
        refine r_getR C fk_X2_116 rfl dX2_takeNames_37 e13 ?_
        refine r_iload_n C dX2_takeNames_40 rfl ?_
        obtain ⟨u15, e14, hf1⟩ := ob hf1
        obtain ⟨t16, h17, e18, hf1⟩ := ob2 hf1
        refine r_cV (ci := 4) (rest := []) (st2 := [.int t16]) C (s_X4_seekName e18) mk_X4_seekName rfl (ck_k e14) (by decide) im_X4_seekName sl_X4_seekName lk_X2_150 rfl rfl rfl dX2_takeNames_41 (Nat.le_of_ble_eq_true rfl) ⟨Nat.le_of_ble_eq_true rfl, Nat.le_of_ble_eq_true rfl⟩ ⟨Nat.le_of_ble_eq_true rfl, Nat.le_of_ble_eq_true rfl⟩ ?_
        refine r_istore (lv' := [(5, .int t16), (0, .ref v0), (1, .int v1), (2, .int v2), (3, .int t6), (4, .int t7)]) C dX2_takeNames_44 (by decide) rfl rfl ?_
        refine r_iload C dX2_takeNames_46 rfl ?_
        refine r_iconst (v := -1) C dX2_takeNames_48 (by decide) ?_
        refine r_icmp_ne (tgt := 54) C dX2_takeNames_49 (by decide) (fun c19 => ?_) (fun c19 => ?_)
        · rw [if_neg c19] at hf1
          refine r_iload_n C dX2_takeNames_54 rfl ?_
          refine r_iload C dX2_takeNames_55 rfl ?_
          refine r_ishr C dX2_takeNames_57 ?_
          refine r_iconst (v := 1) C dX2_takeNames_58 (by decide) ?_
          refine r_iand C dX2_takeNames_59 ?_
          refine r_ifeq (tgt := 74) C dX2_takeNames_60 (by decide) (fun c20 => ?_) (fun c20 => ?_)
          · rw [if_pos c20] at hf1
            refine r_iload_n C dX2_takeNames_74 rfl ?_
            refine r_iconst (v := 1) C dX2_takeNames_75 (by decide) ?_
            refine r_iload C dX2_takeNames_76 rfl ?_
            refine r_ishl C dX2_takeNames_78 ?_
            refine r_ior C dX2_takeNames_79 ?_
            obtain ⟨t21, e22, hf1⟩ := ob hf1
            refine r_istore_n (lv' := [(3, .int t21), (5, .int t16), (0, .ref v0), (1, .int v1), (2, .int v2), (4, .int t7)]) C dX2_takeNames_80 (by decide) e22 rfl ?_
            refine r_aload_n C dX2_takeNames_81 rfl ?_
            obtain ⟨t23, e24, hf1⟩ := ob hf1
            refine r_getR C fk_X2_36 rfl dX2_takeNames_82 e24 ?_
            obtain ⟨u26, e25, hf1⟩ := ob hf1
            obtain ⟨h27, e28, hf1⟩ := ob hf1
            refine r_cV (ci := 4) (rest := []) (st2 := []) C (s_X4_advance e28) mk_X4_advance rfl (ck_k e25) (by decide) im_X4_advance sl_X4_advance lk_X2_91 rfl rfl rfl dX2_takeNames_85 (Nat.le_of_ble_eq_true rfl) ⟨Nat.le_of_ble_eq_true rfl, Nat.le_of_ble_eq_true rfl⟩ ⟨Nat.le_of_ble_eq_true rfl, Nat.le_of_ble_eq_true rfl⟩ ?_
            obtain ⟨t29, e30, hf1⟩ := ob hf1
            refine r_iinc (lv' := [(4, .int t29), (3, .int t21), (5, .int t16), (0, .ref v0), (1, .int v1), (2, .int v2)]) C dX2_takeNames_88 rfl e30 (by decide) rfl ?_
            refine r_goto (tgt := 5) C dX2_takeNames_91 (by decide) ?_
            obtain rfl := so hf1
            refine r_subk [3, 4, 5, 1, 0] (lv' := [(0, .ref v0), (1, .int v1), (2, .int v2), (3, .int t21), (4, .int t29)]) rfl ?_
            exact ih5 t21 t29 h27 hk5
          · rw [if_neg c20] at hf1
            obtain rfl := so hf1
            obtain rfl := so (show some (.inr (.inl h17) : (aH) ⊕ (aH) ⊕ (Int32 × aH)) = some y1 from hk5)
            dsimp only at hf0
            refine r_aload_n C dX2_takeNames_63 rfl ?_
            obtain ⟨t31, e32, hf0⟩ := ob hf0
            refine r_getR C fk_X2_36 rfl dX2_takeNames_64 e32 ?_
            refine r_iconst (v := 5) C dX2_takeNames_67 (by decide) ?_
            obtain ⟨u34, e33, hf0⟩ := ob hf0
            obtain ⟨t35, h36, e37, hf0⟩ := ob2 hf0
            refine r_cV (ci := 4) (rest := []) (st2 := [.int t35]) C (s_X4_refuseHere e37) mk_X4_refuseHere rfl (ck_k e33) (by decide) im_X4_refuseHere sl_X4_refuseHere lk_X2_74 rfl rfl rfl dX2_takeNames_68 (Nat.le_of_ble_eq_true rfl) ⟨Nat.le_of_ble_eq_true rfl, Nat.le_of_ble_eq_true rfl⟩ ⟨Nat.le_of_ble_eq_true rfl, Nat.le_of_ble_eq_true rfl⟩ ?_
            refine r_pop C dX2_takeNames_71 rfl ?_
            refine r_iconst (v := 0) C dX2_takeNames_72 (by decide) ?_
            obtain rfl := so hf0
            exact r_iret C dX2_takeNames_73
        · rw [if_pos c19] at hf1
          obtain rfl := so hf1
          obtain rfl := so (show some (.inl h17 : (aH) ⊕ (aH) ⊕ (Int32 × aH)) = some y1 from hk5)
          dsimp only at hf0
          refine r_iconst (v := 0) C dX2_takeNames_52 (by decide) ?_
          obtain rfl := so hf0
          exact r_iret C dX2_takeNames_53
      refine r_iload C dX2_takeNames_5 rfl ?_
      refine r_sipush (v := 901) C dX2_takeNames_7 (by decide) ?_
      refine r_icmp_ge (tgt := 94) C dX2_takeNames_10 (by decide) (fun c38 => ?_) (fun c38 => ?_)
      · rw [if_pos c38] at hf1
        obtain rfl := so hf1
        obtain rfl := so (show some (.inr (.inr (t2, h4)) : (aH) ⊕ (aH) ⊕ (Int32 × aH)) = some y1 from hk5)
        dsimp only at hf0
        refine r_iload_n C dX2_takeNames_94 rfl ?_
        obtain rfl := so hf0
        exact r_iret C dX2_takeNames_95
      · rw [if_neg c38] at hf1
        refine r_iload C dX2_takeNames_13 rfl ?_
        refine r_ifeq (tgt := 29) C dX2_takeNames_15 (by decide) (fun c39 => ?_) (fun c39 => ?_)
        · rw [if_pos c39] at hf1
          exact J29 h4 t2 t3 hf1
        · rw [if_neg c39] at hf1
          refine r_aload_n C dX2_takeNames_18 rfl ?_
          obtain ⟨t40, e41, hf1⟩ := ob hf1
          refine r_getR C fk_X2_36 rfl dX2_takeNames_19 e41 ?_
          obtain ⟨t42, e43, hf1⟩ := ob hf1
          refine r_getI C fk_X2_55 rfl dX2_takeNames_22 e43 ?_
          refine r_iload_n C dX2_takeNames_25 rfl ?_
          refine r_icmp_eq (tgt := 94) C dX2_takeNames_26 (by decide) (fun c44 => ?_) (fun c44 => ?_)
          · rw [if_pos c44] at hf1
            obtain rfl := so hf1
            obtain rfl := so (show some (.inr (.inr (t2, h4)) : (aH) ⊕ (aH) ⊕ (Int32 × aH)) = some y1 from hk5)
            dsimp only at hf0
            refine r_iload_n C dX2_takeNames_94 rfl ?_
            obtain rfl := so hf0
            exact r_iret C dX2_takeNames_95
          · rw [if_neg c44] at hf1
            exact J29 h4 t2 t3 hf1
  refine r_subk [2, 3, 4, 1, 0] (lv' := [(0, .ref v0), (1, .int v1), (2, .int v2), (3, .int (0 : Int32)), (4, .int (0 : Int32))]) rfl ?_
  exact L5 wN (0 : Int32) (0 : Int32) h hl5
def f_X2_isKind (h : aH) (v0 : Int32) : Option (Int32) := if v0 < (21 : Int32) then some (0 : Int32) else if (24 : Int32) < v0 then some (0 : Int32) else some (1 : Int32)
theorem s_X2_isKind {h : aH} {v0 : Int32} {out : Int32} (hf0 : f_X2_isKind h v0 = some out) : EV 0 yX2_isKind cX2_isKind 1 (some .boolean) h [.int v0] (some (.int out)) h 0 0 := by
  refine EV.of (own := RX2) (lv0 := [(0, .int v0)]) (by decide +kernel) rfl rfl (Nat.le_of_ble_eq_true rfl) ?_
  intro p l e s m args below meth c D cA B Hb C hin
  unfold f_X2_isKind at hf0
  refine r_iload_n C dX2_isKind_0 rfl ?_
  refine r_bipush (v := 21) C dX2_isKind_1 (by decide) ?_
  refine r_icmp_lt (tgt := 16) C dX2_isKind_3 (by decide) (fun c1 => ?_) (fun c1 => ?_)
  · rw [if_pos c1] at hf0
    refine r_iconst (v := 0) C dX2_isKind_16 (by decide) ?_
    obtain rfl := so hf0
    exact r_zret C dX2_isKind_17 (Or.inl rfl)
  · rw [if_neg c1] at hf0
    refine r_iload_n C dX2_isKind_6 rfl ?_
    refine r_bipush (v := 24) C dX2_isKind_7 (by decide) ?_
    refine r_icmp_gt (tgt := 16) C dX2_isKind_9 (by decide) (fun c2 => ?_) (fun c2 => ?_)
    · rw [if_pos c2] at hf0
      refine r_iconst (v := 0) C dX2_isKind_16 (by decide) ?_
      obtain rfl := so hf0
      exact r_zret C dX2_isKind_17 (Or.inl rfl)
    · rw [if_neg c2] at hf0
      refine r_iconst (v := 1) C dX2_isKind_12 (by decide) ?_
      refine r_goto (tgt := 17) C dX2_isKind_13 (by decide) ?_
      obtain rfl := so hf0
      exact r_zret C dX2_isKind_17 (Or.inr rfl)
def f_X2_readKinds_j178 (h : aH) (v0 : Nat) (v1 : Int32) (v2 : Int32) (v3 : Int32) : Option (Int32 × aH) := (gR h 2 v0 6).bind fun t1 => (gI h 1 t1 18).bind fun t2 => (pI h 1 t1 18 (t2 &&& ((((15 : Int32) <<< ((v1 * (4 : Int32)) &&& 31)) ^^^ (-1 : Int32)) ||| (v2 <<< ((v1 * (4 : Int32)) &&& 31))))).bind fun h3 => if v3 = (16 : Int32) then some ((1 : Int32), h3) else (gR h3 2 v0 0).bind fun t4 => (ck h3 4 t4).bind fun _ => bd2 (f_X4_refuseHere h3 t4 (8 : Int32)) fun t5 h6 => if t5 = 0 then some ((0 : Int32), h6) else some ((1 : Int32), h6)
def f_X2_readKinds_j146 (h : aH) (v0 : Nat) (v1 : Int32) (v2 : Int32) (v3 : Int32) : Option (Int32 × aH) := (gR h 2 v0 0).bind fun t7 => (gI h 4 t7 10).bind fun t8 => if t8 = (17 : Int32) then f_X2_readKinds_j178 h v0 v1 v2 v3 else (gR h 2 v0 0).bind fun t9 => (gI h 4 t9 10).bind fun t10 => if t10 = (3 : Int32) then f_X2_readKinds_j178 h v0 v1 v2 v3 else (gR h 2 v0 0).bind fun t11 => (ck h 4 t11).bind fun _ => bd2 (f_X4_refuseHere h t11 (2 : Int32)) fun t12 h13 => (rZ t12).bind fun t14 => some (t14, h13)
def f_X2_readKinds_j33 (h : aH) (v0 : Nat) (v1 : Int32) (v2 : Int32) (v3 : Int32) (v4 : Int32) : Option ((Int32 × Int32 × Int32 × aH) ⊕ ((aH) ⊕ (aH) ⊕ (aH) ⊕ (Int32 × Int32 × aH))) := (gR h 2 v0 0).bind fun t15 => (gI h 4 t15 10).bind fun t16 => (f_X2_isKind h t16).bind fun t17 => if t17 = 0 then some (.inr (.inl h)) else (gR h 2 v0 0).bind fun t18 => (gI h 4 t18 10).bind fun t19 => (some (t19 - (21 : Int32))).bind fun t20 => if ((v2 >>> (t20 &&& 31)) &&& (1 : Int32)) = 0 then (some (v2 ||| ((1 : Int32) <<< (t20 &&& 31)))).bind fun t21 => (gR h 2 v0 0).bind fun t22 => (ck h 4 t22).bind fun _ => (f_X4_advance h t22).bind fun h23 => (gR h23 2 v0 0).bind fun t24 => (ck h23 4 t24).bind fun _ => bd2 (f_X4_takeNumber h23 t24 (1 : Int32) (16 : Int32)) fun t25 h26 => if t25 = (-1 : Int32) then some (.inr (.inr (.inr (.inl h26)))) else (gR h26 2 v0 6).bind fun t27 => (gR h26 1 t27 8).bind fun t28 => (sI h26 t28 ((v1 * (4 : Int32)) + t20) t25).bind fun h29 => (some (v3 + t25)).bind fun t30 => (some (v4 + (1 : Int32))).bind fun t31 => some (.inl (t21, t30, t31, h29)) else some (.inr (.inr (.inl h)))
def f_X2_readKinds_b7 (v0 : Nat) (v1 : Int32) (v2 : Int32) (v3 : Int32) (v4 : Int32) (h : aH) : Option ((Int32 × Int32 × Int32 × aH) ⊕ ((aH) ⊕ (aH) ⊕ (aH) ⊕ (Int32 × Int32 × aH))) := if (901 : Int32) ≤ v4 then some (.inr (.inr (.inr (.inr (v2, v3, h))))) else if v4 = 0 then f_X2_readKinds_j33 h v0 v1 v2 v3 v4 else (gR h 2 v0 0).bind fun t32 => (gI h 4 t32 10).bind fun t33 => (f_X2_isKind h t33).bind fun t34 => if t34 = 0 then some (.inr (.inr (.inr (.inr (v2, v3, h))))) else f_X2_readKinds_j33 h v0 v1 v2 v3 v4
def f_X2_readKinds_l7 (v0 : Nat) (v1 : Int32) (v2 : Int32) (v3 : Int32) (v4 : Int32) (h : aH) : Option ((aH) ⊕ (aH) ⊕ (aH) ⊕ (Int32 × Int32 × aH)) := whileL wN (fun q : Int32 × Int32 × Int32 × aH => f_X2_readKinds_b7 v0 v1 q.1 q.2.1 q.2.2.1 q.2.2.2) (v2, v3, v4, h)
def f_X2_readKinds (h : aH) (v0 : Nat) (v1 : Int32) : Option (Int32 × aH) := (f_X2_readKinds_l7 v0 v1 (0 : Int32) (0 : Int32) (0 : Int32) h).bind fun e => match e with | .inl h35 => (gR h35 2 v0 0).bind fun t36 => (ck h35 4 t36).bind fun _ => bd2 (f_X4_refuseHere h35 t36 (2 : Int32)) fun t37 h38 => (rZ t37).bind fun t39 => some (t39, h38) | .inr (.inl h40) => (gR h40 2 v0 0).bind fun t41 => (ck h40 4 t41).bind fun _ => bd2 (f_X4_refuseHere h40 t41 (5 : Int32)) fun t42 h43 => (rZ t42).bind fun t44 => some (t44, h43) | .inr (.inr (.inl h45)) => some ((0 : Int32), h45) | .inr (.inr (.inr (t46, t47, h48))) => f_X2_readKinds_j146 h48 v0 v1 t46 t47
theorem s_X2_readKinds {h : aH} {v0 : Nat} {v1 : Int32} {out : Int32 × aH} (hf0 : f_X2_readKinds h v0 v1 = some out) : EV 2 yX2_readKinds cX2_readKinds 7 (some .boolean) h [.ref v0, .int v1] (some (.int out.1)) out.2 0 0 := by
  refine EV.of (own := RX2) (lv0 := [(0, .ref v0), (1, .int v1)]) (by decide +kernel) rfl rfl (Nat.le_of_ble_eq_true rfl) ?_
  intro p l e s m args below meth c D cA B Hb C hin
  unfold f_X2_readKinds at hf0
  have J178 : ∀ (h1 : aH) (t2 : Nat) (t3 : Int32) (t4 : Int32) (t5 : Int32), f_X2_readKinds_j178 h1 t2 t3 t4 t5 = some out → gW p l e (rmO 2 0 0) s m args below meth c (MQ below (eQ D cA B Hb out.2 (some (.int out.1))) args s 0 0 (fun q => B ≤ q)) D cA B Hb 7 h1 178 [(0, .ref t2), (1, .int t3), (2, .int t4), (3, .int t5)] [] 0 0 := by
    intro h1 t2 t3 t4 t5 hf0
    unfold f_X2_readKinds_j178 at hf0
    refine r_aload_n C dX2_readKinds_178 rfl ?_
    obtain ⟨t6, e7, hf0⟩ := ob hf0
    refine r_getR C fk_X2_40 rfl dX2_readKinds_179 e7 ?_
    refine r_dup C dX2_readKinds_182 rfl ?_
    obtain ⟨t8, e9, hf0⟩ := ob hf0
    refine r_getI C fk_X2_183 rfl dX2_readKinds_183 e9 ?_
    refine r_bipush (v := 15) C dX2_readKinds_186 (by decide) ?_
    refine r_iload_n C dX2_readKinds_188 rfl ?_
    refine r_iconst (v := 4) C dX2_readKinds_189 (by decide) ?_
    refine r_imul C dX2_readKinds_190 ?_
    refine r_ishl C dX2_readKinds_191 ?_
    refine r_iconst (v := -1) C dX2_readKinds_192 (by decide) ?_
    refine r_ixor C dX2_readKinds_193 ?_
    refine r_iload_n C dX2_readKinds_194 rfl ?_
    refine r_iload_n C dX2_readKinds_195 rfl ?_
    refine r_iconst (v := 4) C dX2_readKinds_196 (by decide) ?_
    refine r_imul C dX2_readKinds_197 ?_
    refine r_ishl C dX2_readKinds_198 ?_
    refine r_ior C dX2_readKinds_199 ?_
    refine r_iand C dX2_readKinds_200 ?_
    obtain ⟨h10, e11, hf0⟩ := ob hf0
    refine r_putI C fk_X2_183 dX2_readKinds_201 e11 ?_
    refine r_iload_n C dX2_readKinds_204 rfl ?_
    refine r_bipush (v := 16) C dX2_readKinds_205 (by decide) ?_
    refine r_icmp_eq (tgt := 222) C dX2_readKinds_207 (by decide) (fun c12 => ?_) (fun c12 => ?_)
    · rw [if_pos c12] at hf0
      refine r_iconst (v := 1) C dX2_readKinds_222 (by decide) ?_
      refine r_goto (tgt := 227) C dX2_readKinds_223 (by decide) ?_
      obtain rfl := so hf0
      exact r_zret C dX2_readKinds_227 (Or.inr rfl)
    · rw [if_neg c12] at hf0
      refine r_aload_n C dX2_readKinds_210 rfl ?_
      obtain ⟨t13, e14, hf0⟩ := ob hf0
      refine r_getR C fk_X2_36 rfl dX2_readKinds_211 e14 ?_
      refine r_bipush (v := 8) C dX2_readKinds_214 (by decide) ?_
      obtain ⟨u16, e15, hf0⟩ := ob hf0
      obtain ⟨t17, h18, e19, hf0⟩ := ob2 hf0
      refine r_cV (ci := 4) (rest := []) (st2 := [.int t17]) C (s_X4_refuseHere e19) mk_X4_refuseHere rfl (ck_k e15) (by decide) im_X4_refuseHere sl_X4_refuseHere lk_X2_74 rfl rfl rfl dX2_readKinds_216 (Nat.le_of_ble_eq_true rfl) ⟨Nat.le_of_ble_eq_true rfl, Nat.le_of_ble_eq_true rfl⟩ ⟨Nat.le_of_ble_eq_true rfl, Nat.le_of_ble_eq_true rfl⟩ ?_
      refine r_ifeq (tgt := 226) C dX2_readKinds_219 (by decide) (fun c20 => ?_) (fun c20 => ?_)
      · rw [if_pos c20] at hf0
        refine r_iconst (v := 0) C dX2_readKinds_226 (by decide) ?_
        obtain rfl := so hf0
        exact r_zret C dX2_readKinds_227 (Or.inl rfl)
      · rw [if_neg c20] at hf0
        refine r_iconst (v := 1) C dX2_readKinds_222 (by decide) ?_
        refine r_goto (tgt := 227) C dX2_readKinds_223 (by decide) ?_
        obtain rfl := so hf0
        exact r_zret C dX2_readKinds_227 (Or.inr rfl)
  have J146 : ∀ (h21 : aH) (t22 : Nat) (t23 : Int32) (t24 : Int32) (t25 : Int32), f_X2_readKinds_j146 h21 t22 t23 t24 t25 = some out → gW p l e (rmO 2 0 0) s m args below meth c (MQ below (eQ D cA B Hb out.2 (some (.int out.1))) args s 0 0 (fun q => B ≤ q)) D cA B Hb 7 h21 146 [(0, .ref t22), (1, .int t23), (2, .int t24), (3, .int t25)] [] 0 0 := by
    intro h21 t22 t23 t24 t25 hf0
    unfold f_X2_readKinds_j146 at hf0
    refine r_aload_n C dX2_readKinds_146 rfl ?_
    obtain ⟨t26, e27, hf0⟩ := ob hf0
    refine r_getR C fk_X2_36 rfl dX2_readKinds_147 e27 ?_
    obtain ⟨t28, e29, hf0⟩ := ob hf0
    refine r_getI C fk_X2_55 rfl dX2_readKinds_150 e29 ?_
    refine r_bipush (v := 17) C dX2_readKinds_153 (by decide) ?_
    refine r_icmp_eq (tgt := 178) C dX2_readKinds_155 (by decide) (fun c30 => ?_) (fun c30 => ?_)
    · rw [if_pos c30] at hf0
      exact J178 h21 t22 t23 t24 t25 hf0
    · rw [if_neg c30] at hf0
      refine r_aload_n C dX2_readKinds_158 rfl ?_
      obtain ⟨t31, e32, hf0⟩ := ob hf0
      refine r_getR C fk_X2_36 rfl dX2_readKinds_159 e32 ?_
      obtain ⟨t33, e34, hf0⟩ := ob hf0
      refine r_getI C fk_X2_55 rfl dX2_readKinds_162 e34 ?_
      refine r_iconst (v := 3) C dX2_readKinds_165 (by decide) ?_
      refine r_icmp_eq (tgt := 178) C dX2_readKinds_166 (by decide) (fun c35 => ?_) (fun c35 => ?_)
      · rw [if_pos c35] at hf0
        exact J178 h21 t22 t23 t24 t25 hf0
      · rw [if_neg c35] at hf0
        refine r_aload_n C dX2_readKinds_169 rfl ?_
        obtain ⟨t36, e37, hf0⟩ := ob hf0
        refine r_getR C fk_X2_36 rfl dX2_readKinds_170 e37 ?_
        refine r_iconst (v := 2) C dX2_readKinds_173 (by decide) ?_
        obtain ⟨u39, e38, hf0⟩ := ob hf0
        obtain ⟨t40, h41, e42, hf0⟩ := ob2 hf0
        refine r_cV (ci := 4) (rest := []) (st2 := [.int t40]) C (s_X4_refuseHere e42) mk_X4_refuseHere rfl (ck_k e38) (by decide) im_X4_refuseHere sl_X4_refuseHere lk_X2_74 rfl rfl rfl dX2_readKinds_174 (Nat.le_of_ble_eq_true rfl) ⟨Nat.le_of_ble_eq_true rfl, Nat.le_of_ble_eq_true rfl⟩ ⟨Nat.le_of_ble_eq_true rfl, Nat.le_of_ble_eq_true rfl⟩ ?_
        obtain ⟨t43, e44, hf0⟩ := ob hf0
        obtain ⟨rfl, e44z⟩ := rZ_k e44
        obtain rfl := so hf0
        exact r_zret C dX2_readKinds_177 e44z
  refine r_iconst (v := 0) C dX2_readKinds_0 (by decide) ?_
  refine r_istore_n (lv' := [(2, .int (0 : Int32)), (0, .ref v0), (1, .int v1)]) C dX2_readKinds_1 (by decide) rfl rfl ?_
  refine r_iconst (v := 0) C dX2_readKinds_2 (by decide) ?_
  refine r_istore_n (lv' := [(3, .int (0 : Int32)), (2, .int (0 : Int32)), (0, .ref v0), (1, .int v1)]) C dX2_readKinds_3 (by decide) rfl rfl ?_
  refine r_iconst (v := 0) C dX2_readKinds_4 (by decide) ?_
  refine r_istore (lv' := [(4, .int (0 : Int32)), (3, .int (0 : Int32)), (2, .int (0 : Int32)), (0, .ref v0), (1, .int v1)]) C dX2_readKinds_5 (by decide) rfl rfl ?_
  obtain ⟨y45, hl7, hf0⟩ := ob hf0
  have L7 : ∀ (n : Nat) (t46 : Int32) (t47 : Int32) (t48 : Int32) (h49 : aH), whileL n (fun q : Int32 × Int32 × Int32 × aH => f_X2_readKinds_b7 v0 v1 q.1 q.2.1 q.2.2.1 q.2.2.2) (t46, t47, t48, h49) = some y45 → gW p l e (rmO 2 0 0) s m args below meth c (MQ below (eQ D cA B Hb out.2 (some (.int out.1))) args s 0 0 (fun q => B ≤ q)) D cA B Hb 7 h49 7 [(0, .ref v0), (1, .int v1), (2, .int t46), (3, .int t47), (4, .int t48)] [] 0 0 := by
    intro n
    induction n with
    | zero => intro t46 t47 t48 h49 hz; cases hz
    | succ n ih7 =>
      intro t46 t47 t48 h49 hz
      obtain ⟨x7, hf1, hk7⟩ := wl hz
      replace hf1 : f_X2_readKinds_b7 v0 v1 t46 t47 t48 h49 = some x7 := hf1
      unfold f_X2_readKinds_b7 at hf1
      have J33 : ∀ (h50 : aH) (t51 : Int32) (t52 : Int32) (t53 : Int32), f_X2_readKinds_j33 h50 v0 v1 t51 t52 t53 = some x7 → gW p l e (rmO 2 0 0) s m args below meth c (MQ below (eQ D cA B Hb out.2 (some (.int out.1))) args s 0 0 (fun q => B ≤ q)) D cA B Hb 7 h50 33 [(0, .ref v0), (1, .int v1), (2, .int t51), (3, .int t52), (4, .int t53)] [] 0 0 := by
        intro h50 t51 t52 t53 hf1
        unfold f_X2_readKinds_j33 at hf1
        refine r_aload_n C dX2_readKinds_33 rfl ?_
        obtain ⟨t54, e55, hf1⟩ := ob hf1
        refine r_getR C fk_X2_36 rfl dX2_readKinds_34 e55 ?_
        obtain ⟨t56, e57, hf1⟩ := ob hf1
        refine r_getI C fk_X2_55 rfl dX2_readKinds_37 e57 ?_
        obtain ⟨t58, e59, hf1⟩ := ob hf1
        refine r_cS (rest := []) (st2 := [.int t58]) C (s_X2_isKind e59) mk_X2_isKind sm_X2_isKind lk_X2_177 rfl rfl rfl dX2_readKinds_40 (Nat.le_of_ble_eq_true rfl) ⟨Nat.le_of_ble_eq_true rfl, Nat.le_of_ble_eq_true rfl⟩ ⟨Nat.le_of_ble_eq_true rfl, Nat.le_of_ble_eq_true rfl⟩ ?_
        refine r_ifne (tgt := 55) C dX2_readKinds_43 (by decide) (fun c60 => ?_) (fun c60 => ?_)
        · rw [if_neg c60] at hf1
          refine r_aload_n C dX2_readKinds_55 rfl ?_
          obtain ⟨t61, e62, hf1⟩ := ob hf1
          refine r_getR C fk_X2_36 rfl dX2_readKinds_56 e62 ?_
          obtain ⟨t63, e64, hf1⟩ := ob hf1
          refine r_getI C fk_X2_55 rfl dX2_readKinds_59 e64 ?_
          refine r_bipush (v := 21) C dX2_readKinds_62 (by decide) ?_
          refine r_isub C dX2_readKinds_64 ?_
          obtain ⟨t65, e66, hf1⟩ := ob hf1
          refine r_istore (lv' := [(5, .int t65), (0, .ref v0), (1, .int v1), (2, .int t51), (3, .int t52), (4, .int t53)]) C dX2_readKinds_65 (by decide) e66 rfl ?_
          refine r_iload_n C dX2_readKinds_67 rfl ?_
          refine r_iload C dX2_readKinds_68 rfl ?_
          refine r_ishr C dX2_readKinds_70 ?_
          refine r_iconst (v := 1) C dX2_readKinds_71 (by decide) ?_
          refine r_iand C dX2_readKinds_72 ?_
          refine r_ifeq (tgt := 85) C dX2_readKinds_73 (by decide) (fun c67 => ?_) (fun c67 => ?_)
          · rw [if_pos c67] at hf1
            refine r_iload_n C dX2_readKinds_85 rfl ?_
            refine r_iconst (v := 1) C dX2_readKinds_86 (by decide) ?_
            refine r_iload C dX2_readKinds_87 rfl ?_
            refine r_ishl C dX2_readKinds_89 ?_
            refine r_ior C dX2_readKinds_90 ?_
            obtain ⟨t68, e69, hf1⟩ := ob hf1
            refine r_istore_n (lv' := [(2, .int t68), (5, .int t65), (0, .ref v0), (1, .int v1), (3, .int t52), (4, .int t53)]) C dX2_readKinds_91 (by decide) e69 rfl ?_
            refine r_aload_n C dX2_readKinds_92 rfl ?_
            obtain ⟨t70, e71, hf1⟩ := ob hf1
            refine r_getR C fk_X2_36 rfl dX2_readKinds_93 e71 ?_
            obtain ⟨u73, e72, hf1⟩ := ob hf1
            obtain ⟨h74, e75, hf1⟩ := ob hf1
            refine r_cV (ci := 4) (rest := []) (st2 := []) C (s_X4_advance e75) mk_X4_advance rfl (ck_k e72) (by decide) im_X4_advance sl_X4_advance lk_X2_91 rfl rfl rfl dX2_readKinds_96 (Nat.le_of_ble_eq_true rfl) ⟨Nat.le_of_ble_eq_true rfl, Nat.le_of_ble_eq_true rfl⟩ ⟨Nat.le_of_ble_eq_true rfl, Nat.le_of_ble_eq_true rfl⟩ ?_
            refine r_aload_n C dX2_readKinds_99 rfl ?_
            obtain ⟨t76, e77, hf1⟩ := ob hf1
            refine r_getR C fk_X2_36 rfl dX2_readKinds_100 e77 ?_
            refine r_iconst (v := 1) C dX2_readKinds_103 (by decide) ?_
            refine r_bipush (v := 16) C dX2_readKinds_104 (by decide) ?_
            obtain ⟨u79, e78, hf1⟩ := ob hf1
            obtain ⟨t80, h81, e82, hf1⟩ := ob2 hf1
            refine r_cV (ci := 4) (rest := []) (st2 := [.int t80]) C (s_X4_takeNumber e82) mk_X4_takeNumber rfl (ck_k e78) (by decide) im_X4_takeNumber sl_X4_takeNumber lk_X2_136 rfl rfl rfl dX2_readKinds_106 (Nat.le_of_ble_eq_true rfl) ⟨Nat.le_of_ble_eq_true rfl, Nat.le_of_ble_eq_true rfl⟩ ⟨Nat.le_of_ble_eq_true rfl, Nat.le_of_ble_eq_true rfl⟩ ?_
            refine r_istore (lv' := [(6, .int t80), (2, .int t68), (5, .int t65), (0, .ref v0), (1, .int v1), (3, .int t52), (4, .int t53)]) C dX2_readKinds_109 (by decide) rfl rfl ?_
            refine r_iload C dX2_readKinds_111 rfl ?_
            refine r_iconst (v := -1) C dX2_readKinds_113 (by decide) ?_
            refine r_icmp_ne (tgt := 119) C dX2_readKinds_114 (by decide) (fun c83 => ?_) (fun c83 => ?_)
            · rw [if_neg c83] at hf1
              refine r_aload_n C dX2_readKinds_119 rfl ?_
              obtain ⟨t84, e85, hf1⟩ := ob hf1
              refine r_getR C fk_X2_40 rfl dX2_readKinds_120 e85 ?_
              obtain ⟨t86, e87, hf1⟩ := ob hf1
              refine r_getR C fk_X2_180 rfl dX2_readKinds_123 e87 ?_
              refine r_iload_n C dX2_readKinds_126 rfl ?_
              refine r_iconst (v := 4) C dX2_readKinds_127 (by decide) ?_
              refine r_imul C dX2_readKinds_128 ?_
              refine r_iload C dX2_readKinds_129 rfl ?_
              refine r_iadd C dX2_readKinds_131 ?_
              refine r_iload C dX2_readKinds_132 rfl ?_
              obtain ⟨h88, e89, hf1⟩ := ob hf1
              refine r_stI C dX2_readKinds_134 e89 ?_
              refine r_iload_n C dX2_readKinds_135 rfl ?_
              refine r_iload C dX2_readKinds_136 rfl ?_
              refine r_iadd C dX2_readKinds_138 ?_
              obtain ⟨t90, e91, hf1⟩ := ob hf1
              refine r_istore_n (lv' := [(3, .int t90), (6, .int t80), (2, .int t68), (5, .int t65), (0, .ref v0), (1, .int v1), (4, .int t53)]) C dX2_readKinds_139 (by decide) e91 rfl ?_
              obtain ⟨t92, e93, hf1⟩ := ob hf1
              refine r_iinc (lv' := [(4, .int t92), (3, .int t90), (6, .int t80), (2, .int t68), (5, .int t65), (0, .ref v0), (1, .int v1)]) C dX2_readKinds_140 rfl e93 (by decide) rfl ?_
              refine r_goto (tgt := 7) C dX2_readKinds_143 (by decide) ?_
              obtain rfl := so hf1
              refine r_subk [5, 6, 3, 1, 0] (lv' := [(0, .ref v0), (1, .int v1), (2, .int t68), (3, .int t90), (4, .int t92)]) rfl ?_
              exact ih7 t68 t90 t92 h88 hk7
            · rw [if_pos c83] at hf1
              obtain rfl := so hf1
              obtain rfl := so (show some (.inr (.inr (.inl h81)) : (aH) ⊕ (aH) ⊕ (aH) ⊕ (Int32 × Int32 × aH)) = some y45 from hk7)
              dsimp only at hf0
              refine r_iconst (v := 0) C dX2_readKinds_117 (by decide) ?_
              obtain rfl := so hf0
              exact r_zret C dX2_readKinds_118 (Or.inl rfl)
          · rw [if_neg c67] at hf1
            obtain rfl := so hf1
            obtain rfl := so (show some (.inr (.inl h50) : (aH) ⊕ (aH) ⊕ (aH) ⊕ (Int32 × Int32 × aH)) = some y45 from hk7)
            dsimp only at hf0
            refine r_aload_n C dX2_readKinds_76 rfl ?_
            obtain ⟨t94, e95, hf0⟩ := ob hf0
            refine r_getR C fk_X2_36 rfl dX2_readKinds_77 e95 ?_
            refine r_iconst (v := 5) C dX2_readKinds_80 (by decide) ?_
            obtain ⟨u97, e96, hf0⟩ := ob hf0
            obtain ⟨t98, h99, e100, hf0⟩ := ob2 hf0
            refine r_cV (ci := 4) (rest := []) (st2 := [.int t98]) C (s_X4_refuseHere e100) mk_X4_refuseHere rfl (ck_k e96) (by decide) im_X4_refuseHere sl_X4_refuseHere lk_X2_74 rfl rfl rfl dX2_readKinds_81 (Nat.le_of_ble_eq_true rfl) ⟨Nat.le_of_ble_eq_true rfl, Nat.le_of_ble_eq_true rfl⟩ ⟨Nat.le_of_ble_eq_true rfl, Nat.le_of_ble_eq_true rfl⟩ ?_
            obtain ⟨t101, e102, hf0⟩ := ob hf0
            obtain ⟨rfl, e102z⟩ := rZ_k e102
            obtain rfl := so hf0
            exact r_zret C dX2_readKinds_84 e102z
        · rw [if_pos c60] at hf1
          obtain rfl := so hf1
          obtain rfl := so (show some (.inl h50 : (aH) ⊕ (aH) ⊕ (aH) ⊕ (Int32 × Int32 × aH)) = some y45 from hk7)
          dsimp only at hf0
          refine r_aload_n C dX2_readKinds_46 rfl ?_
          obtain ⟨t103, e104, hf0⟩ := ob hf0
          refine r_getR C fk_X2_36 rfl dX2_readKinds_47 e104 ?_
          refine r_iconst (v := 2) C dX2_readKinds_50 (by decide) ?_
          obtain ⟨u106, e105, hf0⟩ := ob hf0
          obtain ⟨t107, h108, e109, hf0⟩ := ob2 hf0
          refine r_cV (ci := 4) (rest := []) (st2 := [.int t107]) C (s_X4_refuseHere e109) mk_X4_refuseHere rfl (ck_k e105) (by decide) im_X4_refuseHere sl_X4_refuseHere lk_X2_74 rfl rfl rfl dX2_readKinds_51 (Nat.le_of_ble_eq_true rfl) ⟨Nat.le_of_ble_eq_true rfl, Nat.le_of_ble_eq_true rfl⟩ ⟨Nat.le_of_ble_eq_true rfl, Nat.le_of_ble_eq_true rfl⟩ ?_
          obtain ⟨t110, e111, hf0⟩ := ob hf0
          obtain ⟨rfl, e111z⟩ := rZ_k e111
          obtain rfl := so hf0
          exact r_zret C dX2_readKinds_54 e111z
      refine r_iload C dX2_readKinds_7 rfl ?_
      refine r_sipush (v := 901) C dX2_readKinds_9 (by decide) ?_
      refine r_icmp_ge (tgt := 146) C dX2_readKinds_12 (by decide) (fun c112 => ?_) (fun c112 => ?_)
      · rw [if_pos c112] at hf1
        obtain rfl := so hf1
        obtain rfl := so (show some (.inr (.inr (.inr (t46, t47, h49))) : (aH) ⊕ (aH) ⊕ (aH) ⊕ (Int32 × Int32 × aH)) = some y45 from hk7)
        dsimp only at hf0
        refine r_subk [0, 1, 2, 3] (lv' := [(0, .ref v0), (1, .int v1), (2, .int t46), (3, .int t47)]) rfl ?_
        exact J146 h49 v0 v1 t46 t47 hf0
      · rw [if_neg c112] at hf1
        refine r_iload C dX2_readKinds_15 rfl ?_
        refine r_ifeq (tgt := 33) C dX2_readKinds_17 (by decide) (fun c113 => ?_) (fun c113 => ?_)
        · rw [if_pos c113] at hf1
          exact J33 h49 t46 t47 t48 hf1
        · rw [if_neg c113] at hf1
          refine r_aload_n C dX2_readKinds_20 rfl ?_
          obtain ⟨t114, e115, hf1⟩ := ob hf1
          refine r_getR C fk_X2_36 rfl dX2_readKinds_21 e115 ?_
          obtain ⟨t116, e117, hf1⟩ := ob hf1
          refine r_getI C fk_X2_55 rfl dX2_readKinds_24 e117 ?_
          obtain ⟨t118, e119, hf1⟩ := ob hf1
          refine r_cS (rest := []) (st2 := [.int t118]) C (s_X2_isKind e119) mk_X2_isKind sm_X2_isKind lk_X2_177 rfl rfl rfl dX2_readKinds_27 (Nat.le_of_ble_eq_true rfl) ⟨Nat.le_of_ble_eq_true rfl, Nat.le_of_ble_eq_true rfl⟩ ⟨Nat.le_of_ble_eq_true rfl, Nat.le_of_ble_eq_true rfl⟩ ?_
          refine r_ifeq (tgt := 146) C dX2_readKinds_30 (by decide) (fun c120 => ?_) (fun c120 => ?_)
          · rw [if_pos c120] at hf1
            obtain rfl := so hf1
            obtain rfl := so (show some (.inr (.inr (.inr (t46, t47, h49))) : (aH) ⊕ (aH) ⊕ (aH) ⊕ (Int32 × Int32 × aH)) = some y45 from hk7)
            dsimp only at hf0
            refine r_subk [0, 1, 2, 3] (lv' := [(0, .ref v0), (1, .int v1), (2, .int t46), (3, .int t47)]) rfl ?_
            exact J146 h49 v0 v1 t46 t47 hf0
          · rw [if_neg c120] at hf1
            exact J33 h49 t46 t47 t48 hf1
  refine r_subk [3, 4, 2, 1, 0] (lv' := [(0, .ref v0), (1, .int v1), (2, .int (0 : Int32)), (3, .int (0 : Int32)), (4, .int (0 : Int32))]) rfl ?_
  exact L7 wN (0 : Int32) (0 : Int32) (0 : Int32) h hl7
def f_X2_readWitness_j142 (h : aH) (v0 : Nat) : Option (Int32 × aH) := (gR h 2 v0 6).bind fun t1 => (gI h 1 t1 17).bind fun t2 => (pI h 1 t1 17 (t2 + (1 : Int32))).bind fun h3 => (gR h3 2 v0 0).bind fun t4 => (gI h3 4 t4 12).bind fun t5 => if t5 = 0 then (gR h3 2 v0 0).bind fun t6 => (ck h3 4 t6).bind fun _ => bd2 (f_X4_take h3 t6 (3 : Int32)) fun t7 h8 => if t7 = 0 then some ((0 : Int32), h8) else some ((1 : Int32), h8) else some ((0 : Int32), h3)
def f_X2_readWitness_j76 (h : aH) (v0 : Nat) (v1 : Int32) : Option (Int32 × aH) := (gR h 2 v0 0).bind fun t9 => (gI h 4 t9 12).bind fun t10 => if t10 = 0 then (gR h 2 v0 0).bind fun t11 => (ck h 4 t11).bind fun _ => bd2 (f_X4_take h t11 (16 : Int32)) fun t12 h13 => if t12 = 0 then some ((0 : Int32), h13) else (ck h13 2 v0).bind fun _ => bd2 (f_X2_readKinds h13 v0 v1) fun t14 h15 => if t14 = 0 then some ((0 : Int32), h15) else (gR h15 2 v0 0).bind fun t16 => (gI h15 4 t16 10).bind fun t17 => if t17 = (17 : Int32) then (gR h15 2 v0 0).bind fun t18 => (ck h15 4 t18).bind fun _ => (f_X4_advance h15 t18).bind fun h19 => (gR h19 2 v0 6).bind fun t20 => (gR h19 1 t20 10).bind fun t21 => (ck h19 2 v0).bind fun _ => bd2 (f_X2_takeNames h19 v0 (2 : Int32) (3 : Int32)) fun t22 h23 => (sI h23 t21 v1 t22).bind fun h24 => f_X2_readWitness_j142 h24 v0 else f_X2_readWitness_j142 h15 v0 else some ((0 : Int32), h)
def f_X2_readWitness (h : aH) (v0 : Nat) : Option (Int32 × aH) := (gR h 2 v0 6).bind fun t25 => (gI h 1 t25 17).bind fun t26 => if t26 < (4 : Int32) then (gR h 2 v0 0).bind fun t27 => (ck h 4 t27).bind fun _ => (f_X4_advance h t27).bind fun h28 => (ck h28 2 v0).bind fun _ => bd2 (f_X2_takeNewName h28 v0 (3 : Int32) t26) fun t29 h30 => if t29 = 0 then some ((0 : Int32), h30) else (gR h30 2 v0 0).bind fun t31 => (gI h30 4 t31 10).bind fun t32 => if t32 = (15 : Int32) then (gR h30 2 v0 0).bind fun t33 => (ck h30 4 t33).bind fun _ => (f_X4_advance h30 t33).bind fun h34 => (gR h34 2 v0 6).bind fun t35 => (gR h34 1 t35 9).bind fun t36 => (ck h34 2 v0).bind fun _ => bd2 (f_X2_takeNames h34 v0 (0 : Int32) (16 : Int32)) fun t37 h38 => (sI h38 t36 t26 t37).bind fun h39 => f_X2_readWitness_j76 h39 v0 t26 else f_X2_readWitness_j76 h30 v0 t26 else (gR h 2 v0 0).bind fun t40 => (ck h 4 t40).bind fun _ => bd2 (f_X4_refuseHere h t40 (6 : Int32)) fun t41 h42 => (rZ t41).bind fun t43 => some (t43, h42)
theorem s_X2_readWitness {h : aH} {v0 : Nat} {out : Int32 × aH} (hf0 : f_X2_readWitness h v0 = some out) : EV 3 yX2_readWitness cX2_readWitness 2 (some .boolean) h [.ref v0] (some (.int out.1)) out.2 0 0 := by
  refine EV.of (own := RX2) (lv0 := [(0, .ref v0)]) (by decide +kernel) rfl rfl (Nat.le_of_ble_eq_true rfl) ?_
  intro p l e s m args below meth c D cA B Hb C hin
  unfold f_X2_readWitness at hf0
  have J142 : ∀ (h1 : aH) (t2 : Nat), f_X2_readWitness_j142 h1 t2 = some out → gW p l e (rmO 3 0 0) s m args below meth c (MQ below (eQ D cA B Hb out.2 (some (.int out.1))) args s 0 0 (fun q => B ≤ q)) D cA B Hb 2 h1 142 [(0, .ref t2)] [] 0 0 := by
    intro h1 t2 hf0
    unfold f_X2_readWitness_j142 at hf0
    refine r_aload_n C dX2_readWitness_142 rfl ?_
    obtain ⟨t3, e4, hf0⟩ := ob hf0
    refine r_getR C fk_X2_40 rfl dX2_readWitness_143 e4 ?_
    refine r_dup C dX2_readWitness_146 rfl ?_
    obtain ⟨t5, e6, hf0⟩ := ob hf0
    refine r_getI C fk_X2_162 rfl dX2_readWitness_147 e6 ?_
    refine r_iconst (v := 1) C dX2_readWitness_150 (by decide) ?_
    refine r_iadd C dX2_readWitness_151 ?_
    obtain ⟨h7, e8, hf0⟩ := ob hf0
    refine r_putI C fk_X2_162 dX2_readWitness_152 e8 ?_
    refine r_aload_n C dX2_readWitness_155 rfl ?_
    obtain ⟨t9, e10, hf0⟩ := ob hf0
    refine r_getR C fk_X2_36 rfl dX2_readWitness_156 e10 ?_
    obtain ⟨t11, e12, hf0⟩ := ob hf0
    refine r_getI C fk_X2_140 rfl dX2_readWitness_159 e12 ?_
    refine r_ifne (tgt := 180) C dX2_readWitness_162 (by decide) (fun c13 => ?_) (fun c13 => ?_)
    · rw [if_neg c13] at hf0
      refine r_iconst (v := 0) C dX2_readWitness_180 (by decide) ?_
      obtain rfl := so hf0
      exact r_zret C dX2_readWitness_181 (Or.inl rfl)
    · rw [if_pos c13] at hf0
      refine r_aload_n C dX2_readWitness_165 rfl ?_
      obtain ⟨t14, e15, hf0⟩ := ob hf0
      refine r_getR C fk_X2_36 rfl dX2_readWitness_166 e15 ?_
      refine r_iconst (v := 3) C dX2_readWitness_169 (by decide) ?_
      obtain ⟨u17, e16, hf0⟩ := ob hf0
      obtain ⟨t18, h19, e20, hf0⟩ := ob2 hf0
      refine r_cV (ci := 4) (rest := []) (st2 := [.int t18]) C (s_X4_take e20) mk_X4_take rfl (ck_k e16) (by decide) im_X4_take sl_X4_take lk_X2_98 rfl rfl rfl dX2_readWitness_170 (Nat.le_of_ble_eq_true rfl) ⟨Nat.le_of_ble_eq_true rfl, Nat.le_of_ble_eq_true rfl⟩ ⟨Nat.le_of_ble_eq_true rfl, Nat.le_of_ble_eq_true rfl⟩ ?_
      refine r_ifeq (tgt := 180) C dX2_readWitness_173 (by decide) (fun c21 => ?_) (fun c21 => ?_)
      · rw [if_pos c21] at hf0
        refine r_iconst (v := 0) C dX2_readWitness_180 (by decide) ?_
        obtain rfl := so hf0
        exact r_zret C dX2_readWitness_181 (Or.inl rfl)
      · rw [if_neg c21] at hf0
        refine r_iconst (v := 1) C dX2_readWitness_176 (by decide) ?_
        refine r_goto (tgt := 181) C dX2_readWitness_177 (by decide) ?_
        obtain rfl := so hf0
        exact r_zret C dX2_readWitness_181 (Or.inr rfl)
  have J76 : ∀ (h22 : aH) (t23 : Nat) (t24 : Int32), f_X2_readWitness_j76 h22 t23 t24 = some out → gW p l e (rmO 3 0 0) s m args below meth c (MQ below (eQ D cA B Hb out.2 (some (.int out.1))) args s 0 0 (fun q => B ≤ q)) D cA B Hb 2 h22 76 [(0, .ref t23), (1, .int t24)] [] 0 0 := by
    intro h22 t23 t24 hf0
    unfold f_X2_readWitness_j76 at hf0
    refine r_aload_n C dX2_readWitness_76 rfl ?_
    obtain ⟨t25, e26, hf0⟩ := ob hf0
    refine r_getR C fk_X2_36 rfl dX2_readWitness_77 e26 ?_
    obtain ⟨t27, e28, hf0⟩ := ob hf0
    refine r_getI C fk_X2_140 rfl dX2_readWitness_80 e28 ?_
    refine r_ifne (tgt := 106) C dX2_readWitness_83 (by decide) (fun c29 => ?_) (fun c29 => ?_)
    · rw [if_neg c29] at hf0
      refine r_iconst (v := 0) C dX2_readWitness_106 (by decide) ?_
      obtain rfl := so hf0
      exact r_zret C dX2_readWitness_107 (Or.inl rfl)
    · rw [if_pos c29] at hf0
      refine r_aload_n C dX2_readWitness_86 rfl ?_
      obtain ⟨t30, e31, hf0⟩ := ob hf0
      refine r_getR C fk_X2_36 rfl dX2_readWitness_87 e31 ?_
      refine r_bipush (v := 16) C dX2_readWitness_90 (by decide) ?_
      obtain ⟨u33, e32, hf0⟩ := ob hf0
      obtain ⟨t34, h35, e36, hf0⟩ := ob2 hf0
      refine r_cV (ci := 4) (rest := []) (st2 := [.int t34]) C (s_X4_take e36) mk_X4_take rfl (ck_k e32) (by decide) im_X4_take sl_X4_take lk_X2_98 rfl rfl rfl dX2_readWitness_92 (Nat.le_of_ble_eq_true rfl) ⟨Nat.le_of_ble_eq_true rfl, Nat.le_of_ble_eq_true rfl⟩ ⟨Nat.le_of_ble_eq_true rfl, Nat.le_of_ble_eq_true rfl⟩ ?_
      refine r_ifeq (tgt := 106) C dX2_readWitness_95 (by decide) (fun c37 => ?_) (fun c37 => ?_)
      · rw [if_pos c37] at hf0
        refine r_iconst (v := 0) C dX2_readWitness_106 (by decide) ?_
        obtain rfl := so hf0
        exact r_zret C dX2_readWitness_107 (Or.inl rfl)
      · rw [if_neg c37] at hf0
        refine r_aload_n C dX2_readWitness_98 rfl ?_
        refine r_iload_n C dX2_readWitness_99 rfl ?_
        obtain ⟨u39, e38, hf0⟩ := ob hf0
        obtain ⟨t40, h41, e42, hf0⟩ := ob2 hf0
        refine r_cV (ci := 2) (rest := []) (st2 := [.int t40]) C (s_X2_readKinds e42) mk_X2_readKinds rfl (ck_k e38) (by decide) im_X2_readKinds sl_X2_readKinds lk_X2_171 rfl rfl rfl dX2_readWitness_100 (Nat.le_of_ble_eq_true rfl) ⟨Nat.le_of_ble_eq_true rfl, Nat.le_of_ble_eq_true rfl⟩ ⟨Nat.le_of_ble_eq_true rfl, Nat.le_of_ble_eq_true rfl⟩ ?_
        refine r_ifne (tgt := 108) C dX2_readWitness_103 (by decide) (fun c43 => ?_) (fun c43 => ?_)
        · rw [if_neg c43] at hf0
          refine r_aload_n C dX2_readWitness_108 rfl ?_
          obtain ⟨t44, e45, hf0⟩ := ob hf0
          refine r_getR C fk_X2_36 rfl dX2_readWitness_109 e45 ?_
          obtain ⟨t46, e47, hf0⟩ := ob hf0
          refine r_getI C fk_X2_55 rfl dX2_readWitness_112 e47 ?_
          refine r_bipush (v := 17) C dX2_readWitness_115 (by decide) ?_
          refine r_icmp_ne (tgt := 142) C dX2_readWitness_117 (by decide) (fun c48 => ?_) (fun c48 => ?_)
          · rw [if_neg c48] at hf0
            refine r_subk [0] (lv' := [(0, .ref t23)]) rfl ?_
            exact J142 h41 t23 hf0
          · rw [if_pos c48] at hf0
            refine r_aload_n C dX2_readWitness_120 rfl ?_
            obtain ⟨t49, e50, hf0⟩ := ob hf0
            refine r_getR C fk_X2_36 rfl dX2_readWitness_121 e50 ?_
            obtain ⟨u52, e51, hf0⟩ := ob hf0
            obtain ⟨h53, e54, hf0⟩ := ob hf0
            refine r_cV (ci := 4) (rest := []) (st2 := []) C (s_X4_advance e54) mk_X4_advance rfl (ck_k e51) (by decide) im_X4_advance sl_X4_advance lk_X2_91 rfl rfl rfl dX2_readWitness_124 (Nat.le_of_ble_eq_true rfl) ⟨Nat.le_of_ble_eq_true rfl, Nat.le_of_ble_eq_true rfl⟩ ⟨Nat.le_of_ble_eq_true rfl, Nat.le_of_ble_eq_true rfl⟩ ?_
            refine r_aload_n C dX2_readWitness_127 rfl ?_
            obtain ⟨t55, e56, hf0⟩ := ob hf0
            refine r_getR C fk_X2_40 rfl dX2_readWitness_128 e56 ?_
            obtain ⟨t57, e58, hf0⟩ := ob hf0
            refine r_getR C fk_X2_174 rfl dX2_readWitness_131 e58 ?_
            refine r_iload_n C dX2_readWitness_134 rfl ?_
            refine r_aload_n C dX2_readWitness_135 rfl ?_
            refine r_iconst (v := 2) C dX2_readWitness_136 (by decide) ?_
            refine r_iconst (v := 3) C dX2_readWitness_137 (by decide) ?_
            obtain ⟨u60, e59, hf0⟩ := ob hf0
            obtain ⟨t61, h62, e63, hf0⟩ := ob2 hf0
            refine r_cV (ci := 2) (rest := [.int t24, .ref t57]) (st2 := [.int t61, .int t24, .ref t57]) C (s_X2_takeNames e63) mk_X2_takeNames rfl (ck_k e59) (by decide) im_X2_takeNames sl_X2_takeNames lk_X2_168 rfl rfl rfl dX2_readWitness_138 (Nat.le_of_ble_eq_true rfl) ⟨Nat.le_of_ble_eq_true rfl, Nat.le_of_ble_eq_true rfl⟩ ⟨Nat.le_of_ble_eq_true rfl, Nat.le_of_ble_eq_true rfl⟩ ?_
            obtain ⟨h64, e65, hf0⟩ := ob hf0
            refine r_stI C dX2_readWitness_141 e65 ?_
            refine r_subk [0] (lv' := [(0, .ref t23)]) rfl ?_
            exact J142 h64 t23 hf0
        · rw [if_pos c43] at hf0
          refine r_iconst (v := 0) C dX2_readWitness_106 (by decide) ?_
          obtain rfl := so hf0
          exact r_zret C dX2_readWitness_107 (Or.inl rfl)
  refine r_aload_n C dX2_readWitness_0 rfl ?_
  obtain ⟨t66, e67, hf0⟩ := ob hf0
  refine r_getR C fk_X2_40 rfl dX2_readWitness_1 e67 ?_
  obtain ⟨t68, e69, hf0⟩ := ob hf0
  refine r_getI C fk_X2_162 rfl dX2_readWitness_4 e69 ?_
  refine r_istore_n (lv' := [(1, .int t68), (0, .ref v0)]) C dX2_readWitness_7 (by decide) rfl rfl ?_
  refine r_iload_n C dX2_readWitness_8 rfl ?_
  refine r_iconst (v := 4) C dX2_readWitness_9 (by decide) ?_
  refine r_icmp_lt (tgt := 23) C dX2_readWitness_10 (by decide) (fun c70 => ?_) (fun c70 => ?_)
  · rw [if_pos c70] at hf0
    refine r_aload_n C dX2_readWitness_23 rfl ?_
    obtain ⟨t71, e72, hf0⟩ := ob hf0
    refine r_getR C fk_X2_36 rfl dX2_readWitness_24 e72 ?_
    obtain ⟨u74, e73, hf0⟩ := ob hf0
    obtain ⟨h75, e76, hf0⟩ := ob hf0
    refine r_cV (ci := 4) (rest := []) (st2 := []) C (s_X4_advance e76) mk_X4_advance rfl (ck_k e73) (by decide) im_X4_advance sl_X4_advance lk_X2_91 rfl rfl rfl dX2_readWitness_27 (Nat.le_of_ble_eq_true rfl) ⟨Nat.le_of_ble_eq_true rfl, Nat.le_of_ble_eq_true rfl⟩ ⟨Nat.le_of_ble_eq_true rfl, Nat.le_of_ble_eq_true rfl⟩ ?_
    refine r_aload_n C dX2_readWitness_30 rfl ?_
    refine r_iconst (v := 3) C dX2_readWitness_31 (by decide) ?_
    refine r_iload_n C dX2_readWitness_32 rfl ?_
    obtain ⟨u78, e77, hf0⟩ := ob hf0
    obtain ⟨t79, h80, e81, hf0⟩ := ob2 hf0
    refine r_cV (ci := 2) (rest := []) (st2 := [.int t79]) C (s_X2_takeNewName e81) mk_X2_takeNewName rfl (ck_k e77) (by decide) im_X2_takeNewName sl_X2_takeNewName lk_X2_94 rfl rfl rfl dX2_readWitness_33 (Nat.le_of_ble_eq_true rfl) ⟨Nat.le_of_ble_eq_true rfl, Nat.le_of_ble_eq_true rfl⟩ ⟨Nat.le_of_ble_eq_true rfl, Nat.le_of_ble_eq_true rfl⟩ ?_
    refine r_ifne (tgt := 41) C dX2_readWitness_36 (by decide) (fun c82 => ?_) (fun c82 => ?_)
    · rw [if_neg c82] at hf0
      refine r_aload_n C dX2_readWitness_41 rfl ?_
      obtain ⟨t83, e84, hf0⟩ := ob hf0
      refine r_getR C fk_X2_36 rfl dX2_readWitness_42 e84 ?_
      obtain ⟨t85, e86, hf0⟩ := ob hf0
      refine r_getI C fk_X2_55 rfl dX2_readWitness_45 e86 ?_
      refine r_bipush (v := 15) C dX2_readWitness_48 (by decide) ?_
      refine r_icmp_ne (tgt := 76) C dX2_readWitness_50 (by decide) (fun c87 => ?_) (fun c87 => ?_)
      · rw [if_neg c87] at hf0
        refine r_subk [1, 0] (lv' := [(0, .ref v0), (1, .int t68)]) rfl ?_
        exact J76 h80 v0 t68 hf0
      · rw [if_pos c87] at hf0
        refine r_aload_n C dX2_readWitness_53 rfl ?_
        obtain ⟨t88, e89, hf0⟩ := ob hf0
        refine r_getR C fk_X2_36 rfl dX2_readWitness_54 e89 ?_
        obtain ⟨u91, e90, hf0⟩ := ob hf0
        obtain ⟨h92, e93, hf0⟩ := ob hf0
        refine r_cV (ci := 4) (rest := []) (st2 := []) C (s_X4_advance e93) mk_X4_advance rfl (ck_k e90) (by decide) im_X4_advance sl_X4_advance lk_X2_91 rfl rfl rfl dX2_readWitness_57 (Nat.le_of_ble_eq_true rfl) ⟨Nat.le_of_ble_eq_true rfl, Nat.le_of_ble_eq_true rfl⟩ ⟨Nat.le_of_ble_eq_true rfl, Nat.le_of_ble_eq_true rfl⟩ ?_
        refine r_aload_n C dX2_readWitness_60 rfl ?_
        obtain ⟨t94, e95, hf0⟩ := ob hf0
        refine r_getR C fk_X2_40 rfl dX2_readWitness_61 e95 ?_
        obtain ⟨t96, e97, hf0⟩ := ob hf0
        refine r_getR C fk_X2_165 rfl dX2_readWitness_64 e97 ?_
        refine r_iload_n C dX2_readWitness_67 rfl ?_
        refine r_aload_n C dX2_readWitness_68 rfl ?_
        refine r_iconst (v := 0) C dX2_readWitness_69 (by decide) ?_
        refine r_bipush (v := 16) C dX2_readWitness_70 (by decide) ?_
        obtain ⟨u99, e98, hf0⟩ := ob hf0
        obtain ⟨t100, h101, e102, hf0⟩ := ob2 hf0
        refine r_cV (ci := 2) (rest := [.int t68, .ref t96]) (st2 := [.int t100, .int t68, .ref t96]) C (s_X2_takeNames e102) mk_X2_takeNames rfl (ck_k e98) (by decide) im_X2_takeNames sl_X2_takeNames lk_X2_168 rfl rfl rfl dX2_readWitness_72 (Nat.le_of_ble_eq_true rfl) ⟨Nat.le_of_ble_eq_true rfl, Nat.le_of_ble_eq_true rfl⟩ ⟨Nat.le_of_ble_eq_true rfl, Nat.le_of_ble_eq_true rfl⟩ ?_
        obtain ⟨h103, e104, hf0⟩ := ob hf0
        refine r_stI C dX2_readWitness_75 e104 ?_
        refine r_subk [1, 0] (lv' := [(0, .ref v0), (1, .int t68)]) rfl ?_
        exact J76 h103 v0 t68 hf0
    · rw [if_pos c82] at hf0
      refine r_iconst (v := 0) C dX2_readWitness_39 (by decide) ?_
      obtain rfl := so hf0
      exact r_zret C dX2_readWitness_40 (Or.inl rfl)
  · rw [if_neg c70] at hf0
    refine r_aload_n C dX2_readWitness_13 rfl ?_
    obtain ⟨t105, e106, hf0⟩ := ob hf0
    refine r_getR C fk_X2_36 rfl dX2_readWitness_14 e106 ?_
    refine r_bipush (v := 6) C dX2_readWitness_17 (by decide) ?_
    obtain ⟨u108, e107, hf0⟩ := ob hf0
    obtain ⟨t109, h110, e111, hf0⟩ := ob2 hf0
    refine r_cV (ci := 4) (rest := []) (st2 := [.int t109]) C (s_X4_refuseHere e111) mk_X4_refuseHere rfl (ck_k e107) (by decide) im_X4_refuseHere sl_X4_refuseHere lk_X2_74 rfl rfl rfl dX2_readWitness_19 (Nat.le_of_ble_eq_true rfl) ⟨Nat.le_of_ble_eq_true rfl, Nat.le_of_ble_eq_true rfl⟩ ⟨Nat.le_of_ble_eq_true rfl, Nat.le_of_ble_eq_true rfl⟩ ?_
    obtain ⟨t112, e113, hf0⟩ := ob hf0
    obtain ⟨rfl, e113z⟩ := rZ_k e113
    obtain rfl := so hf0
    exact r_zret C dX2_readWitness_22 e113z
def f_J7_fill_d0a16_b6 (v0 : Nat) (v1 : Int64) (v4 : Int32) (v3 : Int32) (h : aH) : Option ((Int32 × aH) ⊕ (aH)) := if v4 ≤ v3 then some (.inr h) else (sJ h v0 v3 v1).bind fun h2 => (some (v3 + (1 : Int32))).bind fun t3 => some (.inl (t3, h2))
def f_J7_fill_d0a16_l6 (v0 : Nat) (v1 : Int64) (v4 : Int32) (v3 : Int32) (h : aH) : Option (aH) := whileL wN (fun q : Int32 × aH => f_J7_fill_d0a16_b6 v0 v1 v4 q.1 q.2) (v3, h)
def f_J7_fill_d0a16 (h : aH) (v0 : Nat) (v1 : Int64) : Option (aH) := (aN h v0).bind fun t1 => (f_J7_fill_d0a16_l6 v0 v1 t1 (0 : Int32) h).bind fun h4 => some h4
theorem s_J7_fill_d0a16 {h : aH} {v0 : Nat} {v1 : Int64} {out : aH} (hf0 : f_J7_fill_d0a16 h v0 v1 = some out) : EV 0 yJ7_fill_d0a16 cJ7_fill_d0a16 5 none h [.ref v0, .long v1] none out 0 0 := by
  refine EV.of (own := RJ7) (lv0 := [(0, .ref v0), (1, .long v1)]) (by decide +kernel) rfl rfl (Nat.le_of_ble_eq_true rfl) ?_
  intro p l e s m args below meth c D cA B Hb C hin
  unfold f_J7_fill_d0a16 at hf0
  refine r_iconst (v := 0) C dJ7_fill_d0a16_0 (by decide) ?_
  refine r_istore_n (lv' := [(3, .int (0 : Int32)), (0, .ref v0), (1, .long v1)]) C dJ7_fill_d0a16_1 (by decide) rfl rfl ?_
  refine r_aload_n C dJ7_fill_d0a16_2 rfl ?_
  obtain ⟨t1, e2, hf0⟩ := ob hf0
  refine r_alen C dJ7_fill_d0a16_3 e2 ?_
  refine r_istore (lv' := [(4, .int t1), (3, .int (0 : Int32)), (0, .ref v0), (1, .long v1)]) C dJ7_fill_d0a16_4 (by decide) rfl rfl ?_
  obtain ⟨y3, hl6, hf0⟩ := ob hf0
  have L6 : ∀ (n : Nat) (t4 : Int32) (h5 : aH), whileL n (fun q : Int32 × aH => f_J7_fill_d0a16_b6 v0 v1 t1 q.1 q.2) (t4, h5) = some y3 → gW p l e (rmO 0 0 0) s m args below meth c (MQ below (eQ D cA B Hb out none) args s 0 0 (fun q => B ≤ q)) D cA B Hb 5 h5 6 [(0, .ref v0), (1, .long v1), (3, .int t4), (4, .int t1)] [] 0 0 := by
    intro n
    induction n with
    | zero => intro t4 h5 hz; cases hz
    | succ n ih6 =>
      intro t4 h5 hz
      obtain ⟨x6, hf1, hk6⟩ := wl hz
      replace hf1 : f_J7_fill_d0a16_b6 v0 v1 t1 t4 h5 = some x6 := hf1
      unfold f_J7_fill_d0a16_b6 at hf1
      refine r_iload_n C dJ7_fill_d0a16_6 rfl ?_
      refine r_iload C dJ7_fill_d0a16_7 rfl ?_
      refine r_icmp_ge (tgt := 22) C dJ7_fill_d0a16_9 (by decide) (fun c6 => ?_) (fun c6 => ?_)
      · rw [if_pos c6] at hf1
        obtain rfl := so hf1
        obtain rfl := so (show some h5 = some y3 from hk6)
        obtain rfl := so hf0
        exact r_vret C dJ7_fill_d0a16_22
      · rw [if_neg c6] at hf1
        refine r_aload_n C dJ7_fill_d0a16_12 rfl ?_
        refine r_iload_n C dJ7_fill_d0a16_13 rfl ?_
        refine r_lload_n C dJ7_fill_d0a16_14 rfl ?_
        obtain ⟨h7, e8, hf1⟩ := ob hf1
        refine r_stJ C dJ7_fill_d0a16_15 e8 ?_
        obtain ⟨t9, e10, hf1⟩ := ob hf1
        refine r_iinc (lv' := [(3, .int t9), (0, .ref v0), (1, .long v1), (4, .int t1)]) C dJ7_fill_d0a16_16 rfl e10 (by decide) rfl ?_
        refine r_goto (tgt := 6) C dJ7_fill_d0a16_19 (by decide) ?_
        obtain rfl := so hf1
        refine r_subk [1, 2, 0, 3] (lv' := [(0, .ref v0), (1, .long v1), (3, .int t9), (4, .int t1)]) rfl ?_
        exact ih6 t9 h7 hk6
  refine r_subk [2, 3, 1, 0] (lv' := [(0, .ref v0), (1, .long v1), (3, .int (0 : Int32)), (4, .int t1)]) rfl ?_
  exact L6 wN (0 : Int32) h hl6
def f_X2_makeWorldsOnce_j131 (h : aH) (v0 : Nat) (v1 : Int32) : Option ((Int32 × aH) ⊕ (aH)) := (some (v1 + (1 : Int32))).bind fun t10 => some (.inl (t10, h))
def f_X2_makeWorldsOnce_b87 (v0 : Nat) (v1 : Int32) (v2 : Int64) (v4 : Int32) (h : aH) : Option ((Int32 × aH) ⊕ (aH)) := (gR h 2 v0 6).bind fun t19 => (gI h 1 t19 12).bind fun t20 => if t20 ≤ v4 then some (.inr h) else (gR h 2 v0 3).bind fun t21 => (gR h 2 v0 6).bind fun t22 => (ck h 1 t22).bind fun _ => (f_X1_valueIn h t22 v1 v4).bind fun t23 => (lJ h t21 ((t23 * (4 : Int32)) + (v1 >>> ((6 : Int32) &&& 31)))).bind fun t24 => (sJ h t21 ((t23 * (4 : Int32)) + (v1 >>> ((6 : Int32) &&& 31))) (t24 ||| v2)).bind fun h25 => (some (v4 + (1 : Int32))).bind fun t26 => some (.inl (t26, h25))
def f_X2_makeWorldsOnce_l87 (v0 : Nat) (v1 : Int32) (v2 : Int64) (v4 : Int32) (h : aH) : Option (aH) := whileL wN (fun q : Int32 × aH => f_X2_makeWorldsOnce_b87 v0 v1 v2 q.1 q.2) (v4, h)
def f_X2_makeWorldsOnce_b42 (v0 : Nat) (v1 : Int32) (h : aH) : Option ((Int32 × aH) ⊕ (aH)) := (gR h 2 v0 6).bind fun t11 => (gI h 1 t11 14).bind fun t12 => if t12 ≤ v1 then some (.inr h) else (gR h 2 v0 6).bind fun t13 => (ck h 1 t13).bind fun _ => (f_X1_canBe h t13 v1).bind fun t14 => if t14 = 0 then f_X2_makeWorldsOnce_j131 h v0 v1 else (some ((1 : Int64) <<< (Int32.toInt64 (v1 &&& (63 : Int32)) &&& 63))).bind fun t15 => (gR h 2 v0 4).bind fun t16 => (lJ h t16 (v1 >>> ((6 : Int32) &&& 31))).bind fun t17 => (sJ h t16 (v1 >>> ((6 : Int32) &&& 31)) (t17 ||| t15)).bind fun h18 => (f_X2_makeWorldsOnce_l87 v0 v1 t15 (0 : Int32) h18).bind fun h27 => f_X2_makeWorldsOnce_j131 h27 v0 v1
def f_X2_makeWorldsOnce_l42 (v0 : Nat) (v1 : Int32) (h : aH) : Option (aH) := whileL wN (fun q : Int32 × aH => f_X2_makeWorldsOnce_b42 v0 q.1 q.2) (v1, h)
def f_X2_makeWorldsOnce (h : aH) (v0 : Nat) : Option (aH) := (gI h 2 v0 7).bind fun t1 => if t1 = 0 then (pZ h 2 v0 7 (1 : Int32)).bind fun h2 => (gR h2 2 v0 6).bind fun t3 => (gR h2 2 v0 2).bind fun t4 => (ck h2 1 t3).bind fun _ => (f_X1_makeWorlds h2 t3 t4).bind fun h5 => (gR h5 2 v0 4).bind fun t6 => (f_J7_fill_d0a16 h5 t6 (0 : Int64)).bind fun h7 => (gR h7 2 v0 3).bind fun t8 => (f_J7_fill_d0a16 h7 t8 (0 : Int64)).bind fun h9 => (f_X2_makeWorldsOnce_l42 v0 (0 : Int32) h9).bind fun h28 => some h28 else some h
theorem s_X2_makeWorldsOnce {h : aH} {v0 : Nat} {out : aH} (hf0 : f_X2_makeWorldsOnce h v0 = some out) : EV 3 yX2_makeWorldsOnce cX2_makeWorldsOnce 5 none h [.ref v0] none out 0 0 := by
  refine EV.of (own := RX2) (lv0 := [(0, .ref v0)]) (by decide +kernel) rfl rfl (Nat.le_of_ble_eq_true rfl) ?_
  intro p l e s m args below meth c D cA B Hb C hin
  unfold f_X2_makeWorldsOnce at hf0
  refine r_aload_n C dX2_makeWorldsOnce_0 rfl ?_
  obtain ⟨t1, e2, hf0⟩ := ob hf0
  refine r_getI C fk_X2_32 rfl dX2_makeWorldsOnce_1 e2 ?_
  refine r_ifeq (tgt := 8) C dX2_makeWorldsOnce_4 (by decide) (fun c3 => ?_) (fun c3 => ?_)
  · rw [if_pos c3] at hf0
    refine r_aload_n C dX2_makeWorldsOnce_8 rfl ?_
    refine r_iconst (v := 1) C dX2_makeWorldsOnce_9 (by decide) ?_
    obtain ⟨h4, e5, hf0⟩ := ob hf0
    refine r_putZ C fk_X2_32 dX2_makeWorldsOnce_10 e5 ?_
    refine r_aload_n C dX2_makeWorldsOnce_13 rfl ?_
    obtain ⟨t6, e7, hf0⟩ := ob hf0
    refine r_getR C fk_X2_40 rfl dX2_makeWorldsOnce_14 e7 ?_
    refine r_aload_n C dX2_makeWorldsOnce_17 rfl ?_
    obtain ⟨t8, e9, hf0⟩ := ob hf0
    refine r_getR C fk_X2_18 rfl dX2_makeWorldsOnce_18 e9 ?_
    obtain ⟨u11, e10, hf0⟩ := ob hf0
    obtain ⟨h12, e13, hf0⟩ := ob hf0
    refine r_cV (ci := 1) (rest := []) (st2 := []) C (s_X1_makeWorlds e13) mk_X1_makeWorlds rfl (ck_k e10) (by decide) im_X1_makeWorlds sl_X1_makeWorlds lk_X2_190 rfl rfl rfl dX2_makeWorldsOnce_21 (Nat.le_of_ble_eq_true rfl) ⟨Nat.le_of_ble_eq_true rfl, Nat.le_of_ble_eq_true rfl⟩ ⟨Nat.le_of_ble_eq_true rfl, Nat.le_of_ble_eq_true rfl⟩ ?_
    refine r_aload_n C dX2_makeWorldsOnce_24 rfl ?_
    obtain ⟨t14, e15, hf0⟩ := ob hf0
    refine r_getR C fk_X2_26 rfl dX2_makeWorldsOnce_25 e15 ?_
    refine r_lconst (v := 0) C dX2_makeWorldsOnce_28 (by decide) ?_
    obtain ⟨h16, e17, hf0⟩ := ob hf0
    refine r_cS (rest := []) (st2 := []) C (s_J7_fill_d0a16 e17) mk_J7_fill_d0a16 sm_J7_fill_d0a16 lk_X2_194 rfl rfl rfl dX2_makeWorldsOnce_29 (Nat.le_of_ble_eq_true rfl) ⟨Nat.le_of_ble_eq_true rfl, Nat.le_of_ble_eq_true rfl⟩ ⟨Nat.le_of_ble_eq_true rfl, Nat.le_of_ble_eq_true rfl⟩ ?_
    refine r_aload_n C dX2_makeWorldsOnce_32 rfl ?_
    obtain ⟨t18, e19, hf0⟩ := ob hf0
    refine r_getR C fk_X2_22 rfl dX2_makeWorldsOnce_33 e19 ?_
    refine r_lconst (v := 0) C dX2_makeWorldsOnce_36 (by decide) ?_
    obtain ⟨h20, e21, hf0⟩ := ob hf0
    refine r_cS (rest := []) (st2 := []) C (s_J7_fill_d0a16 e21) mk_J7_fill_d0a16 sm_J7_fill_d0a16 lk_X2_194 rfl rfl rfl dX2_makeWorldsOnce_37 (Nat.le_of_ble_eq_true rfl) ⟨Nat.le_of_ble_eq_true rfl, Nat.le_of_ble_eq_true rfl⟩ ⟨Nat.le_of_ble_eq_true rfl, Nat.le_of_ble_eq_true rfl⟩ ?_
    refine r_iconst (v := 0) C dX2_makeWorldsOnce_40 (by decide) ?_
    refine r_istore_n (lv' := [(1, .int (0 : Int32)), (0, .ref v0)]) C dX2_makeWorldsOnce_41 (by decide) rfl rfl ?_
    obtain ⟨y22, hl42, hf0⟩ := ob hf0
    have L42 : ∀ (n : Nat) (t23 : Int32) (h24 : aH), whileL n (fun q : Int32 × aH => f_X2_makeWorldsOnce_b42 v0 q.1 q.2) (t23, h24) = some y22 → gW p l e (rmO 3 0 0) s m args below meth c (MQ below (eQ D cA B Hb out none) args s 0 0 (fun q => B ≤ q)) D cA B Hb 5 h24 42 [(0, .ref v0), (1, .int t23)] [] 0 0 := by
      intro n
      induction n with
      | zero => intro t23 h24 hz; cases hz
      | succ n ih42 =>
        intro t23 h24 hz
        obtain ⟨x42, hf1, hk42⟩ := wl hz
        replace hf1 : f_X2_makeWorldsOnce_b42 v0 t23 h24 = some x42 := hf1
        unfold f_X2_makeWorldsOnce_b42 at hf1
        have J131 : ∀ (h25 : aH) (t26 : Int32), f_X2_makeWorldsOnce_j131 h25 v0 t26 = some x42 → gW p l e (rmO 3 0 0) s m args below meth c (MQ below (eQ D cA B Hb out none) args s 0 0 (fun q => B ≤ q)) D cA B Hb 5 h25 131 [(0, .ref v0), (1, .int t26)] [] 0 0 := by
          intro h25 t26 hf1
          unfold f_X2_makeWorldsOnce_j131 at hf1
          obtain ⟨t27, e28, hf1⟩ := ob hf1
          refine r_iinc (lv' := [(1, .int t27), (0, .ref v0)]) C dX2_makeWorldsOnce_131 rfl e28 (by decide) rfl ?_
          refine r_goto (tgt := 42) C dX2_makeWorldsOnce_134 (by decide) ?_
          obtain rfl := so hf1
          refine r_subk [1, 0] (lv' := [(0, .ref v0), (1, .int t27)]) rfl ?_
          exact ih42 t27 h25 hk42
        refine r_iload_n C dX2_makeWorldsOnce_42 rfl ?_
        refine r_aload_n C dX2_makeWorldsOnce_43 rfl ?_
        obtain ⟨t29, e30, hf1⟩ := ob hf1
        refine r_getR C fk_X2_40 rfl dX2_makeWorldsOnce_44 e30 ?_
        obtain ⟨t31, e32, hf1⟩ := ob hf1
        refine r_getI C fk_X2_143 rfl dX2_makeWorldsOnce_47 e32 ?_
        refine r_icmp_ge (tgt := 137) C dX2_makeWorldsOnce_50 (by decide) (fun c33 => ?_) (fun c33 => ?_)
        · rw [if_pos c33] at hf1
          obtain rfl := so hf1
          obtain rfl := so (show some h24 = some y22 from hk42)
          obtain rfl := so hf0
          exact r_vret C dX2_makeWorldsOnce_137
        · rw [if_neg c33] at hf1
          refine r_aload_n C dX2_makeWorldsOnce_53 rfl ?_
          obtain ⟨t34, e35, hf1⟩ := ob hf1
          refine r_getR C fk_X2_40 rfl dX2_makeWorldsOnce_54 e35 ?_
          refine r_iload_n C dX2_makeWorldsOnce_57 rfl ?_
          obtain ⟨u37, e36, hf1⟩ := ob hf1
          obtain ⟨t38, e39, hf1⟩ := ob hf1
          refine r_cV (ci := 1) (rest := []) (st2 := [.int t38]) C (s_X1_canBe e39) mk_X1_canBe rfl (ck_k e36) (by decide) im_X1_canBe sl_X1_canBe lk_X2_197 rfl rfl rfl dX2_makeWorldsOnce_58 (Nat.le_of_ble_eq_true rfl) ⟨Nat.le_of_ble_eq_true rfl, Nat.le_of_ble_eq_true rfl⟩ ⟨Nat.le_of_ble_eq_true rfl, Nat.le_of_ble_eq_true rfl⟩ ?_
          refine r_ifeq (tgt := 131) C dX2_makeWorldsOnce_61 (by decide) (fun c40 => ?_) (fun c40 => ?_)
          · rw [if_pos c40] at hf1
            exact J131 h24 t23 hf1
          · rw [if_neg c40] at hf1
            refine r_lconst (v := 1) C dX2_makeWorldsOnce_64 (by decide) ?_
            refine r_iload_n C dX2_makeWorldsOnce_65 rfl ?_
            refine r_bipush (v := 63) C dX2_makeWorldsOnce_66 (by decide) ?_
            refine r_iand C dX2_makeWorldsOnce_68 ?_
            refine r_lshl C dX2_makeWorldsOnce_69 ?_
            obtain ⟨t41, e42, hf1⟩ := ob hf1
            refine r_lstore_n (lv' := [(2, .long t41), (0, .ref v0), (1, .int t23)]) C dX2_makeWorldsOnce_70 (by decide) e42 rfl ?_
            refine r_aload_n C dX2_makeWorldsOnce_71 rfl ?_
            obtain ⟨t43, e44, hf1⟩ := ob hf1
            refine r_getR C fk_X2_26 rfl dX2_makeWorldsOnce_72 e44 ?_
            refine r_iload_n C dX2_makeWorldsOnce_75 rfl ?_
            refine r_bipush (v := 6) C dX2_makeWorldsOnce_76 (by decide) ?_
            refine r_ishr C dX2_makeWorldsOnce_78 ?_
            refine r_dup2 C dX2_makeWorldsOnce_79 rfl rfl ?_
            obtain ⟨t45, e46, hf1⟩ := ob hf1
            refine r_ldJ C dX2_makeWorldsOnce_80 e46 ?_
            refine r_lload_n C dX2_makeWorldsOnce_81 rfl ?_
            refine r_lor C dX2_makeWorldsOnce_82 ?_
            obtain ⟨h47, e48, hf1⟩ := ob hf1
            refine r_stJ C dX2_makeWorldsOnce_83 e48 ?_
            refine r_iconst (v := 0) C dX2_makeWorldsOnce_84 (by decide) ?_
            refine r_istore (lv' := [(4, .int (0 : Int32)), (2, .long t41), (0, .ref v0), (1, .int t23)]) C dX2_makeWorldsOnce_85 (by decide) rfl rfl ?_
            obtain ⟨y49, hl87, hf1⟩ := ob hf1
            have L87 : ∀ (n : Nat) (t50 : Int32) (h51 : aH), whileL n (fun q : Int32 × aH => f_X2_makeWorldsOnce_b87 v0 t23 t41 q.1 q.2) (t50, h51) = some y49 → gW p l e (rmO 3 0 0) s m args below meth c (MQ below (eQ D cA B Hb out none) args s 0 0 (fun q => B ≤ q)) D cA B Hb 5 h51 87 [(0, .ref v0), (1, .int t23), (2, .long t41), (4, .int t50)] [] 0 0 := by
              intro n
              induction n with
              | zero => intro t50 h51 hz; cases hz
              | succ n ih87 =>
                intro t50 h51 hz
                obtain ⟨x87, hf2, hk87⟩ := wl hz
                replace hf2 : f_X2_makeWorldsOnce_b87 v0 t23 t41 t50 h51 = some x87 := hf2
                unfold f_X2_makeWorldsOnce_b87 at hf2
                refine r_iload C dX2_makeWorldsOnce_87 rfl ?_
                refine r_aload_n C dX2_makeWorldsOnce_89 rfl ?_
                obtain ⟨t52, e53, hf2⟩ := ob hf2
                refine r_getR C fk_X2_40 rfl dX2_makeWorldsOnce_90 e53 ?_
                obtain ⟨t54, e55, hf2⟩ := ob hf2
                refine r_getI C fk_X2_85 rfl dX2_makeWorldsOnce_93 e55 ?_
                refine r_icmp_ge (tgt := 131) C dX2_makeWorldsOnce_96 (by decide) (fun c56 => ?_) (fun c56 => ?_)
                · rw [if_pos c56] at hf2
                  obtain rfl := so hf2
                  obtain rfl := so (show some h51 = some y49 from hk87)
                  refine r_subk [0, 1] (lv' := [(0, .ref v0), (1, .int t23)]) rfl ?_
                  exact J131 h51 t23 hf1
                · rw [if_neg c56] at hf2
                  refine r_aload_n C dX2_makeWorldsOnce_99 rfl ?_
                  obtain ⟨t57, e58, hf2⟩ := ob hf2
                  refine r_getR C fk_X2_22 rfl dX2_makeWorldsOnce_100 e58 ?_
                  refine r_aload_n C dX2_makeWorldsOnce_103 rfl ?_
                  obtain ⟨t59, e60, hf2⟩ := ob hf2
                  refine r_getR C fk_X2_40 rfl dX2_makeWorldsOnce_104 e60 ?_
                  refine r_iload_n C dX2_makeWorldsOnce_107 rfl ?_
                  refine r_iload C dX2_makeWorldsOnce_108 rfl ?_
                  obtain ⟨u62, e61, hf2⟩ := ob hf2
                  obtain ⟨t63, e64, hf2⟩ := ob hf2
                  refine r_cV (ci := 1) (rest := [.ref t57]) (st2 := [.int t63, .ref t57]) C (s_X1_valueIn e64) mk_X1_valueIn rfl (ck_k e61) (by decide) im_X1_valueIn sl_X1_valueIn lk_X2_200 rfl rfl rfl dX2_makeWorldsOnce_110 (Nat.le_of_ble_eq_true rfl) ⟨Nat.le_of_ble_eq_true rfl, Nat.le_of_ble_eq_true rfl⟩ ⟨Nat.le_of_ble_eq_true rfl, Nat.le_of_ble_eq_true rfl⟩ ?_
                  refine r_iconst (v := 4) C dX2_makeWorldsOnce_113 (by decide) ?_
                  refine r_imul C dX2_makeWorldsOnce_114 ?_
                  refine r_iload_n C dX2_makeWorldsOnce_115 rfl ?_
                  refine r_bipush (v := 6) C dX2_makeWorldsOnce_116 (by decide) ?_
                  refine r_ishr C dX2_makeWorldsOnce_118 ?_
                  refine r_iadd C dX2_makeWorldsOnce_119 ?_
                  refine r_dup2 C dX2_makeWorldsOnce_120 rfl rfl ?_
                  obtain ⟨t65, e66, hf2⟩ := ob hf2
                  refine r_ldJ C dX2_makeWorldsOnce_121 e66 ?_
                  refine r_lload_n C dX2_makeWorldsOnce_122 rfl ?_
                  refine r_lor C dX2_makeWorldsOnce_123 ?_
                  obtain ⟨h67, e68, hf2⟩ := ob hf2
                  refine r_stJ C dX2_makeWorldsOnce_124 e68 ?_
                  obtain ⟨t69, e70, hf2⟩ := ob hf2
                  refine r_iinc (lv' := [(4, .int t69), (0, .ref v0), (1, .int t23), (2, .long t41)]) C dX2_makeWorldsOnce_125 rfl e70 (by decide) rfl ?_
                  refine r_goto (tgt := 87) C dX2_makeWorldsOnce_128 (by decide) ?_
                  obtain rfl := so hf2
                  refine r_subk [1, 2, 3, 0] (lv' := [(0, .ref v0), (1, .int t23), (2, .long t41), (4, .int t69)]) rfl ?_
                  exact ih87 t69 h67 hk87
            refine r_subk [2, 3, 1, 0] (lv' := [(0, .ref v0), (1, .int t23), (2, .long t41), (4, .int (0 : Int32))]) rfl ?_
            exact L87 wN (0 : Int32) h47 hl87
    refine r_subk [1, 0] (lv' := [(0, .ref v0), (1, .int (0 : Int32))]) rfl ?_
    exact L42 wN (0 : Int32) h20 hl42
  · rw [if_neg c3] at hf0
    obtain rfl := so hf0
    exact r_vret C dX2_makeWorldsOnce_7
def f_X3_agreeing (h : aH) (v0 : Nat) (v1 : Int32) (v2 : Int32) : Option (Int32) := (gR h 3 v0 0).bind fun t1 => (gR h 6 t1 0).bind fun t2 => (lI h t2 v1).bind fun t3 => (some (t3 * (4 : Int32))).bind fun t4 => (gR h 3 v0 4).bind fun t5 => (gR h 3 v0 0).bind fun t6 => (gR h 6 t6 0).bind fun t7 => (lI h t7 v1).bind fun t8 => (gR h 3 v0 0).bind fun t9 => (gR h 6 t9 1).bind fun t10 => (lI h t10 v1).bind fun t11 => (ck h 1 t5).bind fun _ => (f_X1_packedAnswers h t5 t8 t11 v2).bind fun t12 => (gR h 3 v0 0).bind fun t13 => (gR h 6 t13 2).bind fun t14 => (lI h t14 v1).bind fun t15 => (f_X1_kindsAnswering h t12 t15).bind fun t16 => some (((65535 : Int32) &&& (((15 : Int32) <<< (t4 &&& 31)) ^^^ (-1 : Int32))) ||| (t16 <<< (t4 &&& 31)))
theorem s_X3_agreeing {h : aH} {v0 : Nat} {v1 : Int32} {v2 : Int32} {out : Int32} (hf0 : f_X3_agreeing h v0 v1 v2 = some out) : EV 1 yX3_agreeing cX3_agreeing 6 (some .int) h [.ref v0, .int v1, .int v2] (some (.int out)) h 0 0 := by
  refine EV.of (own := RX3) (lv0 := [(0, .ref v0), (1, .int v1), (2, .int v2)]) (by decide +kernel) rfl rfl (Nat.le_of_ble_eq_true rfl) ?_
  intro p l e s m args below meth c D cA B Hb C hin
  unfold f_X3_agreeing at hf0
  refine r_aload_n C dX3_agreeing_0 rfl ?_
  obtain ⟨t1, e2, hf0⟩ := ob hf0
  refine r_getR C fk_X3_12 rfl dX3_agreeing_1 e2 ?_
  obtain ⟨t3, e4, hf0⟩ := ob hf0
  refine r_getR C fk_X3_77 rfl dX3_agreeing_4 e4 ?_
  refine r_iload_n C dX3_agreeing_7 rfl ?_
  obtain ⟨t5, e6, hf0⟩ := ob hf0
  refine r_ldI C dX3_agreeing_8 e6 ?_
  refine r_iconst (v := 4) C dX3_agreeing_9 (by decide) ?_
  refine r_imul C dX3_agreeing_10 ?_
  obtain ⟨t7, e8, hf0⟩ := ob hf0
  refine r_istore_n (lv' := [(3, .int t7), (0, .ref v0), (1, .int v1), (2, .int v2)]) C dX3_agreeing_11 (by decide) e8 rfl ?_
  refine r_aload_n C dX3_agreeing_12 rfl ?_
  obtain ⟨t9, e10, hf0⟩ := ob hf0
  refine r_getR C fk_X3_35 rfl dX3_agreeing_13 e10 ?_
  refine r_aload_n C dX3_agreeing_16 rfl ?_
  obtain ⟨t11, e12, hf0⟩ := ob hf0
  refine r_getR C fk_X3_12 rfl dX3_agreeing_17 e12 ?_
  obtain ⟨t13, e14, hf0⟩ := ob hf0
  refine r_getR C fk_X3_77 rfl dX3_agreeing_20 e14 ?_
  refine r_iload_n C dX3_agreeing_23 rfl ?_
  obtain ⟨t15, e16, hf0⟩ := ob hf0
  refine r_ldI C dX3_agreeing_24 e16 ?_
  refine r_aload_n C dX3_agreeing_25 rfl ?_
  obtain ⟨t17, e18, hf0⟩ := ob hf0
  refine r_getR C fk_X3_12 rfl dX3_agreeing_26 e18 ?_
  obtain ⟨t19, e20, hf0⟩ := ob hf0
  refine r_getR C fk_X3_70 rfl dX3_agreeing_29 e20 ?_
  refine r_iload_n C dX3_agreeing_32 rfl ?_
  obtain ⟨t21, e22, hf0⟩ := ob hf0
  refine r_ldI C dX3_agreeing_33 e22 ?_
  refine r_iload_n C dX3_agreeing_34 rfl ?_
  obtain ⟨u24, e23, hf0⟩ := ob hf0
  obtain ⟨t25, e26, hf0⟩ := ob hf0
  refine r_cV (ci := 1) (rest := []) (st2 := [.int t25]) C (s_X1_packedAnswers e26) mk_X1_packedAnswers rfl (ck_k e23) (by decide) im_X1_packedAnswers sl_X1_packedAnswers lk_X3_83 rfl rfl rfl dX3_agreeing_35 (Nat.le_of_ble_eq_true rfl) ⟨Nat.le_of_ble_eq_true rfl, Nat.le_of_ble_eq_true rfl⟩ ⟨Nat.le_of_ble_eq_true rfl, Nat.le_of_ble_eq_true rfl⟩ ?_
  refine r_istore (lv' := [(4, .int t25), (3, .int t7), (0, .ref v0), (1, .int v1), (2, .int v2)]) C dX3_agreeing_38 (by decide) rfl rfl ?_
  refine r_iload C dX3_agreeing_40 rfl ?_
  refine r_aload_n C dX3_agreeing_42 rfl ?_
  obtain ⟨t27, e28, hf0⟩ := ob hf0
  refine r_getR C fk_X3_12 rfl dX3_agreeing_43 e28 ?_
  obtain ⟨t29, e30, hf0⟩ := ob hf0
  refine r_getR C fk_X3_87 rfl dX3_agreeing_46 e30 ?_
  refine r_iload_n C dX3_agreeing_49 rfl ?_
  obtain ⟨t31, e32, hf0⟩ := ob hf0
  refine r_ldI C dX3_agreeing_50 e32 ?_
  obtain ⟨t33, e34, hf0⟩ := ob hf0
  refine r_cS (rest := []) (st2 := [.int t33]) C (s_X1_kindsAnswering e34) mk_X1_kindsAnswering sm_X1_kindsAnswering lk_X3_90 rfl rfl rfl dX3_agreeing_51 (Nat.le_of_ble_eq_true rfl) ⟨Nat.le_of_ble_eq_true rfl, Nat.le_of_ble_eq_true rfl⟩ ⟨Nat.le_of_ble_eq_true rfl, Nat.le_of_ble_eq_true rfl⟩ ?_
  refine r_istore (lv' := [(5, .int t33), (4, .int t25), (3, .int t7), (0, .ref v0), (1, .int v1), (2, .int v2)]) C dX3_agreeing_54 (by decide) rfl rfl ?_
  refine r_ldc (v := 65535) C dX3_agreeing_56 cn_X3_65 ?_
  refine r_bipush (v := 15) C dX3_agreeing_58 (by decide) ?_
  refine r_iload_n C dX3_agreeing_60 rfl ?_
  refine r_ishl C dX3_agreeing_61 ?_
  refine r_iconst (v := -1) C dX3_agreeing_62 (by decide) ?_
  refine r_ixor C dX3_agreeing_63 ?_
  refine r_iand C dX3_agreeing_64 ?_
  refine r_iload C dX3_agreeing_65 rfl ?_
  refine r_iload_n C dX3_agreeing_67 rfl ?_
  refine r_ishl C dX3_agreeing_68 ?_
  refine r_ior C dX3_agreeing_69 ?_
  obtain rfl := so hf0
  exact r_iret C dX3_agreeing_70
def f_X3_kindsLeft (h : aH) (v0 : Nat) (v1 : Int32) (v2 : Int32) : Option (Int32) := (gR h 3 v0 1).bind fun t1 => (lI h t1 v2).bind fun t2 => (gR h 3 v0 4).bind fun t3 => (gI h 1 t3 18).bind fun t4 => some (((t2 &&& t4) >>> ((v1 * (4 : Int32)) &&& 31)) &&& (15 : Int32))
theorem s_X3_kindsLeft {h : aH} {v0 : Nat} {v1 : Int32} {v2 : Int32} {out : Int32} (hf0 : f_X3_kindsLeft h v0 v1 v2 = some out) : EV 0 yX3_kindsLeft cX3_kindsLeft 3 (some .int) h [.ref v0, .int v1, .int v2] (some (.int out)) h 0 0 := by
  refine EV.of (own := RX3) (lv0 := [(0, .ref v0), (1, .int v1), (2, .int v2)]) (by decide +kernel) rfl rfl (Nat.le_of_ble_eq_true rfl) ?_
  intro p l e s m args below meth c D cA B Hb C hin
  unfold f_X3_kindsLeft at hf0
  refine r_aload_n C dX3_kindsLeft_0 rfl ?_
  obtain ⟨t1, e2, hf0⟩ := ob hf0
  refine r_getR C fk_X3_18 rfl dX3_kindsLeft_1 e2 ?_
  refine r_iload_n C dX3_kindsLeft_4 rfl ?_
  obtain ⟨t3, e4, hf0⟩ := ob hf0
  refine r_ldI C dX3_kindsLeft_5 e4 ?_
  refine r_aload_n C dX3_kindsLeft_6 rfl ?_
  obtain ⟨t5, e6, hf0⟩ := ob hf0
  refine r_getR C fk_X3_35 rfl dX3_kindsLeft_7 e6 ?_
  obtain ⟨t7, e8, hf0⟩ := ob hf0
  refine r_getI C fk_X3_93 rfl dX3_kindsLeft_10 e8 ?_
  refine r_iand C dX3_kindsLeft_13 ?_
  refine r_iload_n C dX3_kindsLeft_14 rfl ?_
  refine r_iconst (v := 4) C dX3_kindsLeft_15 (by decide) ?_
  refine r_imul C dX3_kindsLeft_16 ?_
  refine r_ishr C dX3_kindsLeft_17 ?_
  refine r_bipush (v := 15) C dX3_kindsLeft_18 (by decide) ?_
  refine r_iand C dX3_kindsLeft_20 ?_
  obtain rfl := so hf0
  exact r_iret C dX3_kindsLeft_21
def f_X3_narrow_j59 (h : aH) (v0 : Nat) (v1 : Int32) (v2 : Int32) : Option ((Int32 × aH) ⊕ (aH)) := (some (v2 + (1 : Int32))).bind fun t6 => some (.inl (t6, h))
def f_X3_narrow_b22 (v0 : Nat) (v1 : Int32) (v2 : Int32) (h : aH) : Option ((Int32 × aH) ⊕ (aH)) := (gR h 3 v0 4).bind fun t7 => (gI h 1 t7 14).bind fun t8 => if t8 ≤ v2 then some (.inr h) else (gR h 3 v0 4).bind fun t9 => (ck h 1 t9).bind fun _ => (f_X1_canBe h t9 v2).bind fun t10 => if t10 = 0 then f_X3_narrow_j59 h v0 v1 v2 else (gR h 3 v0 1).bind fun t11 => (lI h t11 v2).bind fun t12 => (ck h 3 v0).bind fun _ => (f_X3_agreeing h v0 v1 v2).bind fun t13 => (sI h t11 v2 (t12 &&& t13)).bind fun h14 => f_X3_narrow_j59 h14 v0 v1 v2
def f_X3_narrow_l22 (v0 : Nat) (v1 : Int32) (v2 : Int32) (h : aH) : Option (aH) := whileL wN (fun q : Int32 × aH => f_X3_narrow_b22 v0 v1 q.1 q.2) (v2, h)
def f_X3_narrow_j114 (h : aH) (v0 : Nat) (v1 : Int32) (v2 : Int32) (v3 : Int32) : Option ((Int32 × Int32 × aH) ⊕ (Int32 × aH)) := (some (v3 + (1 : Int32))).bind fun t16 => some (.inl (v2, t16, h))
def f_X3_narrow_b69 (v0 : Nat) (v1 : Int32) (v2 : Int32) (v3 : Int32) (h : aH) : Option ((Int32 × Int32 × aH) ⊕ (Int32 × aH)) := (gI h 3 v0 5).bind fun t17 => if t17 ≤ v3 then some (.inr (v2, h)) else (gR h 3 v0 0).bind fun t18 => (gR h 6 t18 0).bind fun t19 => (lI h t19 v1).bind fun t20 => (gR h 3 v0 2).bind fun t21 => (lI h t21 v3).bind fun t22 => (ck h 3 v0).bind fun _ => (f_X3_kindsLeft h v0 t20 t22).bind fun t23 => if t23 = 0 then f_X3_narrow_j114 h v0 v1 v2 v3 else (gR h 3 v0 2).bind fun t24 => (gR h 3 v0 2).bind fun t25 => (lI h t25 v3).bind fun t26 => (sI h t24 v2 t26).bind fun h27 => (some (v2 + (1 : Int32))).bind fun t28 => f_X3_narrow_j114 h27 v0 v1 t28 v3
def f_X3_narrow_l69 (v0 : Nat) (v1 : Int32) (v2 : Int32) (v3 : Int32) (h : aH) : Option (Int32 × aH) := whileL wN (fun q : Int32 × Int32 × aH => f_X3_narrow_b69 v0 v1 q.1 q.2.1 q.2.2) (v2, v3, h)
def f_X3_narrow (h : aH) (v0 : Nat) (v1 : Int32) : Option (aH) := (gI h 3 v0 6).bind fun t1 => (gR h 3 v0 0).bind fun t2 => (gR h 6 t2 1).bind fun t3 => (lI h t3 v1).bind fun t4 => (pI h 3 v0 6 (t1 ||| ((1 : Int32) <<< (t4 &&& 31)))).bind fun h5 => (f_X3_narrow_l22 v0 v1 (0 : Int32) h5).bind fun h15 => bd2 (f_X3_narrow_l69 v0 v1 (0 : Int32) (0 : Int32) h15) fun t29 h30 => (pI h30 3 v0 5 t29).bind fun h31 => some h31
theorem s_X3_narrow {h : aH} {v0 : Nat} {v1 : Int32} {out : aH} (hf0 : f_X3_narrow h v0 v1 = some out) : EV 2 yX3_narrow cX3_narrow 4 none h [.ref v0, .int v1] none out 0 0 := by
  refine EV.of (own := RX3) (lv0 := [(0, .ref v0), (1, .int v1)]) (by decide +kernel) rfl rfl (Nat.le_of_ble_eq_true rfl) ?_
  intro p l e s m args below meth c D cA B Hb C hin
  unfold f_X3_narrow at hf0
  refine r_aload_n C dX3_narrow_0 rfl ?_
  refine r_dup C dX3_narrow_1 rfl ?_
  obtain ⟨t1, e2, hf0⟩ := ob hf0
  refine r_getI C fk_X3_32 rfl dX3_narrow_2 e2 ?_
  refine r_iconst (v := 1) C dX3_narrow_5 (by decide) ?_
  refine r_aload_n C dX3_narrow_6 rfl ?_
  obtain ⟨t3, e4, hf0⟩ := ob hf0
  refine r_getR C fk_X3_12 rfl dX3_narrow_7 e4 ?_
  obtain ⟨t5, e6, hf0⟩ := ob hf0
  refine r_getR C fk_X3_70 rfl dX3_narrow_10 e6 ?_
  refine r_iload_n C dX3_narrow_13 rfl ?_
  obtain ⟨t7, e8, hf0⟩ := ob hf0
  refine r_ldI C dX3_narrow_14 e8 ?_
  refine r_ishl C dX3_narrow_15 ?_
  refine r_ior C dX3_narrow_16 ?_
  obtain ⟨h9, e10, hf0⟩ := ob hf0
  refine r_putI C fk_X3_32 dX3_narrow_17 e10 ?_
  refine r_iconst (v := 0) C dX3_narrow_20 (by decide) ?_
  refine r_istore_n (lv' := [(2, .int (0 : Int32)), (0, .ref v0), (1, .int v1)]) C dX3_narrow_21 (by decide) rfl rfl ?_
  obtain ⟨y11, hl22, hf0⟩ := ob hf0
  have L22 : ∀ (n : Nat) (t12 : Int32) (h13 : aH), whileL n (fun q : Int32 × aH => f_X3_narrow_b22 v0 v1 q.1 q.2) (t12, h13) = some y11 → gW p l e (rmO 2 0 0) s m args below meth c (MQ below (eQ D cA B Hb out none) args s 0 0 (fun q => B ≤ q)) D cA B Hb 4 h13 22 [(0, .ref v0), (1, .int v1), (2, .int t12)] [] 0 0 := by
    intro n
    induction n with
    | zero => intro t12 h13 hz; cases hz
    | succ n ih22 =>
      intro t12 h13 hz
      obtain ⟨x22, hf1, hk22⟩ := wl hz
      replace hf1 : f_X3_narrow_b22 v0 v1 t12 h13 = some x22 := hf1
      unfold f_X3_narrow_b22 at hf1
      have J59 : ∀ (h14 : aH) (t15 : Int32), f_X3_narrow_j59 h14 v0 v1 t15 = some x22 → gW p l e (rmO 2 0 0) s m args below meth c (MQ below (eQ D cA B Hb out none) args s 0 0 (fun q => B ≤ q)) D cA B Hb 4 h14 59 [(0, .ref v0), (1, .int v1), (2, .int t15)] [] 0 0 := by
        intro h14 t15 hf1
        unfold f_X3_narrow_j59 at hf1
        obtain ⟨t16, e17, hf1⟩ := ob hf1
        refine r_iinc (lv' := [(2, .int t16), (0, .ref v0), (1, .int v1)]) C dX3_narrow_59 rfl e17 (by decide) rfl ?_
        refine r_goto (tgt := 22) C dX3_narrow_62 (by decide) ?_
        obtain rfl := so hf1
        refine r_subk [1, 2, 0] (lv' := [(0, .ref v0), (1, .int v1), (2, .int t16)]) rfl ?_
        exact ih22 t16 h14 hk22
      refine r_iload_n C dX3_narrow_22 rfl ?_
      refine r_aload_n C dX3_narrow_23 rfl ?_
      obtain ⟨t18, e19, hf1⟩ := ob hf1
      refine r_getR C fk_X3_35 rfl dX3_narrow_24 e19 ?_
      obtain ⟨t20, e21, hf1⟩ := ob hf1
      refine r_getI C fk_X3_60 rfl dX3_narrow_27 e21 ?_
      refine r_icmp_ge (tgt := 65) C dX3_narrow_30 (by decide) (fun c22 => ?_) (fun c22 => ?_)
      · rw [if_pos c22] at hf1
        obtain rfl := so hf1
        obtain rfl := so (show some h13 = some y11 from hk22)
        refine r_iconst (v := 0) C dX3_narrow_65 (by decide) ?_
        refine r_istore_n (lv' := [(2, .int (0 : Int32)), (0, .ref v0), (1, .int v1)]) C dX3_narrow_66 (by decide) rfl rfl ?_
        refine r_iconst (v := 0) C dX3_narrow_67 (by decide) ?_
        refine r_istore_n (lv' := [(3, .int (0 : Int32)), (2, .int (0 : Int32)), (0, .ref v0), (1, .int v1)]) C dX3_narrow_68 (by decide) rfl rfl ?_
        obtain ⟨y23, y24, hl69, hf0⟩ := ob2 hf0
        have L69 : ∀ (n : Nat) (t25 : Int32) (t26 : Int32) (h27 : aH), whileL n (fun q : Int32 × Int32 × aH => f_X3_narrow_b69 v0 v1 q.1 q.2.1 q.2.2) (t25, t26, h27) = some (y23, y24) → gW p l e (rmO 2 0 0) s m args below meth c (MQ below (eQ D cA B Hb out none) args s 0 0 (fun q => B ≤ q)) D cA B Hb 4 h27 69 [(0, .ref v0), (1, .int v1), (2, .int t25), (3, .int t26)] [] 0 0 := by
          intro n
          induction n with
          | zero => intro t25 t26 h27 hz; cases hz
          | succ n ih69 =>
            intro t25 t26 h27 hz
            obtain ⟨x69, hf1, hk69⟩ := wl hz
            replace hf1 : f_X3_narrow_b69 v0 v1 t25 t26 h27 = some x69 := hf1
            unfold f_X3_narrow_b69 at hf1
            have J114 : ∀ (h28 : aH) (t29 : Int32) (t30 : Int32), f_X3_narrow_j114 h28 v0 v1 t29 t30 = some x69 → gW p l e (rmO 2 0 0) s m args below meth c (MQ below (eQ D cA B Hb out none) args s 0 0 (fun q => B ≤ q)) D cA B Hb 4 h28 114 [(0, .ref v0), (1, .int v1), (2, .int t29), (3, .int t30)] [] 0 0 := by
              intro h28 t29 t30 hf1
              unfold f_X3_narrow_j114 at hf1
              obtain ⟨t31, e32, hf1⟩ := ob hf1
              refine r_iinc (lv' := [(3, .int t31), (0, .ref v0), (1, .int v1), (2, .int t29)]) C dX3_narrow_114 rfl e32 (by decide) rfl ?_
              refine r_goto (tgt := 69) C dX3_narrow_117 (by decide) ?_
              obtain rfl := so hf1
              refine r_subk [1, 2, 3, 0] (lv' := [(0, .ref v0), (1, .int v1), (2, .int t29), (3, .int t31)]) rfl ?_
              exact ih69 t29 t31 h28 hk69
            refine r_iload_n C dX3_narrow_69 rfl ?_
            refine r_aload_n C dX3_narrow_70 rfl ?_
            obtain ⟨t33, e34, hf1⟩ := ob hf1
            refine r_getI C fk_X3_28 rfl dX3_narrow_71 e34 ?_
            refine r_icmp_ge (tgt := 120) C dX3_narrow_74 (by decide) (fun c35 => ?_) (fun c35 => ?_)
            · rw [if_pos c35] at hf1
              obtain rfl := so hf1
              obtain ⟨rfl, rfl⟩ := so2 (show some (t25, h27) = some (y23, y24) from hk69)
              refine r_aload_n C dX3_narrow_120 rfl ?_
              refine r_iload_n C dX3_narrow_121 rfl ?_
              obtain ⟨h36, e37, hf0⟩ := ob hf0
              refine r_putI C fk_X3_28 dX3_narrow_122 e37 ?_
              obtain rfl := so hf0
              exact r_vret C dX3_narrow_125
            · rw [if_neg c35] at hf1
              refine r_aload_n C dX3_narrow_77 rfl ?_
              refine r_aload_n C dX3_narrow_78 rfl ?_
              obtain ⟨t38, e39, hf1⟩ := ob hf1
              refine r_getR C fk_X3_12 rfl dX3_narrow_79 e39 ?_
              obtain ⟨t40, e41, hf1⟩ := ob hf1
              refine r_getR C fk_X3_77 rfl dX3_narrow_82 e41 ?_
              refine r_iload_n C dX3_narrow_85 rfl ?_
              obtain ⟨t42, e43, hf1⟩ := ob hf1
              refine r_ldI C dX3_narrow_86 e43 ?_
              refine r_aload_n C dX3_narrow_87 rfl ?_
              obtain ⟨t44, e45, hf1⟩ := ob hf1
              refine r_getR C fk_X3_22 rfl dX3_narrow_88 e45 ?_
              refine r_iload_n C dX3_narrow_91 rfl ?_
              obtain ⟨t46, e47, hf1⟩ := ob hf1
              refine r_ldI C dX3_narrow_92 e47 ?_
              obtain ⟨u49, e48, hf1⟩ := ob hf1
              obtain ⟨t50, e51, hf1⟩ := ob hf1
              refine r_cV (ci := 3) (rest := []) (st2 := [.int t50]) C (s_X3_kindsLeft e51) mk_X3_kindsLeft rfl (ck_k e48) (by decide) im_X3_kindsLeft sl_X3_kindsLeft lk_X3_80 rfl rfl rfl dX3_narrow_93 (Nat.le_of_ble_eq_true rfl) ⟨Nat.le_of_ble_eq_true rfl, Nat.le_of_ble_eq_true rfl⟩ ⟨Nat.le_of_ble_eq_true rfl, Nat.le_of_ble_eq_true rfl⟩ ?_
              refine r_ifeq (tgt := 114) C dX3_narrow_96 (by decide) (fun c52 => ?_) (fun c52 => ?_)
              · rw [if_pos c52] at hf1
                exact J114 h27 t25 t26 hf1
              · rw [if_neg c52] at hf1
                refine r_aload_n C dX3_narrow_99 rfl ?_
                obtain ⟨t53, e54, hf1⟩ := ob hf1
                refine r_getR C fk_X3_22 rfl dX3_narrow_100 e54 ?_
                refine r_iload_n C dX3_narrow_103 rfl ?_
                refine r_aload_n C dX3_narrow_104 rfl ?_
                obtain ⟨t55, e56, hf1⟩ := ob hf1
                refine r_getR C fk_X3_22 rfl dX3_narrow_105 e56 ?_
                refine r_iload_n C dX3_narrow_108 rfl ?_
                obtain ⟨t57, e58, hf1⟩ := ob hf1
                refine r_ldI C dX3_narrow_109 e58 ?_
                obtain ⟨h59, e60, hf1⟩ := ob hf1
                refine r_stI C dX3_narrow_110 e60 ?_
                obtain ⟨t61, e62, hf1⟩ := ob hf1
                refine r_iinc (lv' := [(2, .int t61), (0, .ref v0), (1, .int v1), (3, .int t26)]) C dX3_narrow_111 rfl e62 (by decide) rfl ?_
                refine r_subk [1, 2, 0, 3] (lv' := [(0, .ref v0), (1, .int v1), (2, .int t61), (3, .int t26)]) rfl ?_
                exact J114 h59 t61 t26 hf1
        refine r_subk [2, 3, 1, 0] (lv' := [(0, .ref v0), (1, .int v1), (2, .int (0 : Int32)), (3, .int (0 : Int32))]) rfl ?_
        exact L69 wN (0 : Int32) (0 : Int32) h13 hl69
      · rw [if_neg c22] at hf1
        refine r_aload_n C dX3_narrow_33 rfl ?_
        obtain ⟨t63, e64, hf1⟩ := ob hf1
        refine r_getR C fk_X3_35 rfl dX3_narrow_34 e64 ?_
        refine r_iload_n C dX3_narrow_37 rfl ?_
        obtain ⟨u66, e65, hf1⟩ := ob hf1
        obtain ⟨t67, e68, hf1⟩ := ob hf1
        refine r_cV (ci := 1) (rest := []) (st2 := [.int t67]) C (s_X1_canBe e68) mk_X1_canBe rfl (ck_k e65) (by decide) im_X1_canBe sl_X1_canBe lk_X3_66 rfl rfl rfl dX3_narrow_38 (Nat.le_of_ble_eq_true rfl) ⟨Nat.le_of_ble_eq_true rfl, Nat.le_of_ble_eq_true rfl⟩ ⟨Nat.le_of_ble_eq_true rfl, Nat.le_of_ble_eq_true rfl⟩ ?_
        refine r_ifeq (tgt := 59) C dX3_narrow_41 (by decide) (fun c69 => ?_) (fun c69 => ?_)
        · rw [if_pos c69] at hf1
          exact J59 h13 t12 hf1
        · rw [if_neg c69] at hf1
          refine r_aload_n C dX3_narrow_44 rfl ?_
          obtain ⟨t70, e71, hf1⟩ := ob hf1
          refine r_getR C fk_X3_18 rfl dX3_narrow_45 e71 ?_
          refine r_iload_n C dX3_narrow_48 rfl ?_
          refine r_dup2 C dX3_narrow_49 rfl rfl ?_
          obtain ⟨t72, e73, hf1⟩ := ob hf1
          refine r_ldI C dX3_narrow_50 e73 ?_
          refine r_aload_n C dX3_narrow_51 rfl ?_
          refine r_iload_n C dX3_narrow_52 rfl ?_
          refine r_iload_n C dX3_narrow_53 rfl ?_
          obtain ⟨u75, e74, hf1⟩ := ob hf1
          obtain ⟨t76, e77, hf1⟩ := ob hf1
          refine r_cV (ci := 3) (rest := [.int t72, .int t12, .ref t70]) (st2 := [.int t76, .int t72, .int t12, .ref t70]) C (s_X3_agreeing e77) mk_X3_agreeing rfl (ck_k e74) (by decide) im_X3_agreeing sl_X3_agreeing lk_X3_73 rfl rfl rfl dX3_narrow_54 (Nat.le_of_ble_eq_true rfl) ⟨Nat.le_of_ble_eq_true rfl, Nat.le_of_ble_eq_true rfl⟩ ⟨Nat.le_of_ble_eq_true rfl, Nat.le_of_ble_eq_true rfl⟩ ?_
          refine r_iand C dX3_narrow_57 ?_
          obtain ⟨h78, e79, hf1⟩ := ob hf1
          refine r_stI C dX3_narrow_58 e79 ?_
          exact J59 h78 t12 hf1
  refine r_subk [1, 2, 0] (lv' := [(0, .ref v0), (1, .int v1), (2, .int (0 : Int32))]) rfl ?_
  exact L22 wN (0 : Int32) h9 hl22
def f_X3_rebuild_j62 (h : aH) (v0 : Nat) (v1 : Int32) : Option ((Int32 × aH) ⊕ (aH)) := (some (v1 + (1 : Int32))).bind fun t3 => some (.inl (t3, h))
def f_X3_rebuild_b12 (v0 : Nat) (v1 : Int32) (h : aH) : Option ((Int32 × aH) ⊕ (aH)) := (gR h 3 v0 4).bind fun t4 => (gI h 1 t4 14).bind fun t5 => if t5 ≤ v1 then some (.inr h) else (gR h 3 v0 1).bind fun t6 => (sI h t6 v1 (65535 : Int32)).bind fun h7 => (gR h7 3 v0 4).bind fun t8 => (ck h7 1 t8).bind fun _ => (f_X1_canBe h7 t8 v1).bind fun t9 => if t9 = 0 then f_X3_rebuild_j62 h7 v0 v1 else (gR h7 3 v0 2).bind fun t10 => (gI h7 3 v0 5).bind fun t11 => (sI h7 t10 t11 v1).bind fun h12 => (gI h12 3 v0 5).bind fun t13 => (pI h12 3 v0 5 (t13 + (1 : Int32))).bind fun h14 => f_X3_rebuild_j62 h14 v0 v1
def f_X3_rebuild_l12 (v0 : Nat) (v1 : Int32) (h : aH) : Option (aH) := whileL wN (fun q : Int32 × aH => f_X3_rebuild_b12 v0 q.1 q.2) (v1, h)
def f_X3_rebuild_b70 (v0 : Nat) (v1 : Int32) (h : aH) : Option ((Int32 × aH) ⊕ (aH)) := (gR h 3 v0 0).bind fun t16 => (gI h 6 t16 4).bind fun t17 => if t17 ≤ v1 then some (.inr h) else (ck h 3 v0).bind fun _ => (f_X3_narrow h v0 v1).bind fun h18 => (some (v1 + (1 : Int32))).bind fun t19 => some (.inl (t19, h18))
def f_X3_rebuild_l70 (v0 : Nat) (v1 : Int32) (h : aH) : Option (aH) := whileL wN (fun q : Int32 × aH => f_X3_rebuild_b70 v0 q.1 q.2) (v1, h)
def f_X3_rebuild (h : aH) (v0 : Nat) : Option (aH) := (pI h 3 v0 5 (0 : Int32)).bind fun h1 => (pI h1 3 v0 6 (0 : Int32)).bind fun h2 => (f_X3_rebuild_l12 v0 (0 : Int32) h2).bind fun h15 => (f_X3_rebuild_l70 v0 (0 : Int32) h15).bind fun h20 => some h20
theorem s_X3_rebuild {h : aH} {v0 : Nat} {out : aH} (hf0 : f_X3_rebuild h v0 = some out) : EV 3 yX3_rebuild cX3_rebuild 2 none h [.ref v0] none out 0 0 := by
  refine EV.of (own := RX3) (lv0 := [(0, .ref v0)]) (by decide +kernel) rfl rfl (Nat.le_of_ble_eq_true rfl) ?_
  intro p l e s m args below meth c D cA B Hb C hin
  unfold f_X3_rebuild at hf0
  refine r_aload_n C dX3_rebuild_0 rfl ?_
  refine r_iconst (v := 0) C dX3_rebuild_1 (by decide) ?_
  obtain ⟨h1, e2, hf0⟩ := ob hf0
  refine r_putI C fk_X3_28 dX3_rebuild_2 e2 ?_
  refine r_aload_n C dX3_rebuild_5 rfl ?_
  refine r_iconst (v := 0) C dX3_rebuild_6 (by decide) ?_
  obtain ⟨h3, e4, hf0⟩ := ob hf0
  refine r_putI C fk_X3_32 dX3_rebuild_7 e4 ?_
  refine r_iconst (v := 0) C dX3_rebuild_10 (by decide) ?_
  refine r_istore_n (lv' := [(1, .int (0 : Int32)), (0, .ref v0)]) C dX3_rebuild_11 (by decide) rfl rfl ?_
  obtain ⟨y5, hl12, hf0⟩ := ob hf0
  have L12 : ∀ (n : Nat) (t6 : Int32) (h7 : aH), whileL n (fun q : Int32 × aH => f_X3_rebuild_b12 v0 q.1 q.2) (t6, h7) = some y5 → gW p l e (rmO 3 0 0) s m args below meth c (MQ below (eQ D cA B Hb out none) args s 0 0 (fun q => B ≤ q)) D cA B Hb 2 h7 12 [(0, .ref v0), (1, .int t6)] [] 0 0 := by
    intro n
    induction n with
    | zero => intro t6 h7 hz; cases hz
    | succ n ih12 =>
      intro t6 h7 hz
      obtain ⟨x12, hf1, hk12⟩ := wl hz
      replace hf1 : f_X3_rebuild_b12 v0 t6 h7 = some x12 := hf1
      unfold f_X3_rebuild_b12 at hf1
      have J62 : ∀ (h8 : aH) (t9 : Int32), f_X3_rebuild_j62 h8 v0 t9 = some x12 → gW p l e (rmO 3 0 0) s m args below meth c (MQ below (eQ D cA B Hb out none) args s 0 0 (fun q => B ≤ q)) D cA B Hb 2 h8 62 [(0, .ref v0), (1, .int t9)] [] 0 0 := by
        intro h8 t9 hf1
        unfold f_X3_rebuild_j62 at hf1
        obtain ⟨t10, e11, hf1⟩ := ob hf1
        refine r_iinc (lv' := [(1, .int t10), (0, .ref v0)]) C dX3_rebuild_62 rfl e11 (by decide) rfl ?_
        refine r_goto (tgt := 12) C dX3_rebuild_65 (by decide) ?_
        obtain rfl := so hf1
        refine r_subk [1, 0] (lv' := [(0, .ref v0), (1, .int t10)]) rfl ?_
        exact ih12 t10 h8 hk12
      refine r_iload_n C dX3_rebuild_12 rfl ?_
      refine r_aload_n C dX3_rebuild_13 rfl ?_
      obtain ⟨t12, e13, hf1⟩ := ob hf1
      refine r_getR C fk_X3_35 rfl dX3_rebuild_14 e13 ?_
      obtain ⟨t14, e15, hf1⟩ := ob hf1
      refine r_getI C fk_X3_60 rfl dX3_rebuild_17 e15 ?_
      refine r_icmp_ge (tgt := 68) C dX3_rebuild_20 (by decide) (fun c16 => ?_) (fun c16 => ?_)
      · rw [if_pos c16] at hf1
        obtain rfl := so hf1
        obtain rfl := so (show some h7 = some y5 from hk12)
        refine r_iconst (v := 0) C dX3_rebuild_68 (by decide) ?_
        refine r_istore_n (lv' := [(1, .int (0 : Int32)), (0, .ref v0)]) C dX3_rebuild_69 (by decide) rfl rfl ?_
        obtain ⟨y17, hl70, hf0⟩ := ob hf0
        have L70 : ∀ (n : Nat) (t18 : Int32) (h19 : aH), whileL n (fun q : Int32 × aH => f_X3_rebuild_b70 v0 q.1 q.2) (t18, h19) = some y17 → gW p l e (rmO 3 0 0) s m args below meth c (MQ below (eQ D cA B Hb out none) args s 0 0 (fun q => B ≤ q)) D cA B Hb 2 h19 70 [(0, .ref v0), (1, .int t18)] [] 0 0 := by
          intro n
          induction n with
          | zero => intro t18 h19 hz; cases hz
          | succ n ih70 =>
            intro t18 h19 hz
            obtain ⟨x70, hf1, hk70⟩ := wl hz
            replace hf1 : f_X3_rebuild_b70 v0 t18 h19 = some x70 := hf1
            unfold f_X3_rebuild_b70 at hf1
            refine r_iload_n C dX3_rebuild_70 rfl ?_
            refine r_aload_n C dX3_rebuild_71 rfl ?_
            obtain ⟨t20, e21, hf1⟩ := ob hf1
            refine r_getR C fk_X3_12 rfl dX3_rebuild_72 e21 ?_
            obtain ⟨t22, e23, hf1⟩ := ob hf1
            refine r_getI C fk_X3_42 rfl dX3_rebuild_75 e23 ?_
            refine r_icmp_ge (tgt := 92) C dX3_rebuild_78 (by decide) (fun c24 => ?_) (fun c24 => ?_)
            · rw [if_pos c24] at hf1
              obtain rfl := so hf1
              obtain rfl := so (show some h19 = some y17 from hk70)
              obtain rfl := so hf0
              exact r_vret C dX3_rebuild_92
            · rw [if_neg c24] at hf1
              refine r_aload_n C dX3_rebuild_81 rfl ?_
              refine r_iload_n C dX3_rebuild_82 rfl ?_
              obtain ⟨u26, e25, hf1⟩ := ob hf1
              obtain ⟨h27, e28, hf1⟩ := ob hf1
              refine r_cV (ci := 3) (rest := []) (st2 := []) C (s_X3_narrow e28) mk_X3_narrow rfl (ck_k e25) (by decide) im_X3_narrow sl_X3_narrow lk_X3_56 rfl rfl rfl dX3_rebuild_83 (Nat.le_of_ble_eq_true rfl) ⟨Nat.le_of_ble_eq_true rfl, Nat.le_of_ble_eq_true rfl⟩ ⟨Nat.le_of_ble_eq_true rfl, Nat.le_of_ble_eq_true rfl⟩ ?_
              obtain ⟨t29, e30, hf1⟩ := ob hf1
              refine r_iinc (lv' := [(1, .int t29), (0, .ref v0)]) C dX3_rebuild_86 rfl e30 (by decide) rfl ?_
              refine r_goto (tgt := 70) C dX3_rebuild_89 (by decide) ?_
              obtain rfl := so hf1
              refine r_subk [1, 0] (lv' := [(0, .ref v0), (1, .int t29)]) rfl ?_
              exact ih70 t29 h27 hk70
        refine r_subk [1, 0] (lv' := [(0, .ref v0), (1, .int (0 : Int32))]) rfl ?_
        exact L70 wN (0 : Int32) h7 hl70
      · rw [if_neg c16] at hf1
        refine r_aload_n C dX3_rebuild_23 rfl ?_
        obtain ⟨t31, e32, hf1⟩ := ob hf1
        refine r_getR C fk_X3_18 rfl dX3_rebuild_24 e32 ?_
        refine r_iload_n C dX3_rebuild_27 rfl ?_
        refine r_ldc (v := 65535) C dX3_rebuild_28 cn_X3_65 ?_
        obtain ⟨h33, e34, hf1⟩ := ob hf1
        refine r_stI C dX3_rebuild_30 e34 ?_
        refine r_aload_n C dX3_rebuild_31 rfl ?_
        obtain ⟨t35, e36, hf1⟩ := ob hf1
        refine r_getR C fk_X3_35 rfl dX3_rebuild_32 e36 ?_
        refine r_iload_n C dX3_rebuild_35 rfl ?_
        obtain ⟨u38, e37, hf1⟩ := ob hf1
        obtain ⟨t39, e40, hf1⟩ := ob hf1
        refine r_cV (ci := 1) (rest := []) (st2 := [.int t39]) C (s_X1_canBe e40) mk_X1_canBe rfl (ck_k e37) (by decide) im_X1_canBe sl_X1_canBe lk_X3_66 rfl rfl rfl dX3_rebuild_36 (Nat.le_of_ble_eq_true rfl) ⟨Nat.le_of_ble_eq_true rfl, Nat.le_of_ble_eq_true rfl⟩ ⟨Nat.le_of_ble_eq_true rfl, Nat.le_of_ble_eq_true rfl⟩ ?_
        refine r_ifeq (tgt := 62) C dX3_rebuild_39 (by decide) (fun c41 => ?_) (fun c41 => ?_)
        · rw [if_pos c41] at hf1
          exact J62 h33 t6 hf1
        · rw [if_neg c41] at hf1
          refine r_aload_n C dX3_rebuild_42 rfl ?_
          obtain ⟨t42, e43, hf1⟩ := ob hf1
          refine r_getR C fk_X3_22 rfl dX3_rebuild_43 e43 ?_
          refine r_aload_n C dX3_rebuild_46 rfl ?_
          obtain ⟨t44, e45, hf1⟩ := ob hf1
          refine r_getI C fk_X3_28 rfl dX3_rebuild_47 e45 ?_
          refine r_iload_n C dX3_rebuild_50 rfl ?_
          obtain ⟨h46, e47, hf1⟩ := ob hf1
          refine r_stI C dX3_rebuild_51 e47 ?_
          refine r_aload_n C dX3_rebuild_52 rfl ?_
          refine r_dup C dX3_rebuild_53 rfl ?_
          obtain ⟨t48, e49, hf1⟩ := ob hf1
          refine r_getI C fk_X3_28 rfl dX3_rebuild_54 e49 ?_
          refine r_iconst (v := 1) C dX3_rebuild_57 (by decide) ?_
          refine r_iadd C dX3_rebuild_58 ?_
          obtain ⟨h50, e51, hf1⟩ := ob hf1
          refine r_putI C fk_X3_28 dX3_rebuild_59 e51 ?_
          exact J62 h50 t6 hf1
  refine r_subk [1, 0] (lv' := [(0, .ref v0), (1, .int (0 : Int32))]) rfl ?_
  exact L12 wN (0 : Int32) h3 hl12
def f_X3_begin (h : aH) (v0 : Nat) (v1 : Nat) : Option (aH) := (pR h 3 v0 4 v1).bind fun h1 => (gR h1 3 v0 0).bind fun t2 => (pI h1 6 t2 4 (0 : Int32)).bind fun h3 => (gR h3 3 v0 0).bind fun t4 => (pI h3 6 t4 5 (0 : Int32)).bind fun h5 => (ck h5 3 v0).bind fun _ => (f_X3_rebuild h5 v0).bind fun h6 => some h6
theorem s_X3_begin {h : aH} {v0 : Nat} {v1 : Nat} {out : aH} (hf0 : f_X3_begin h v0 v1 = some out) : EV 4 yX3_begin cX3_begin 2 none h [.ref v0, .ref v1] none out 0 0 := by
  refine EV.of (own := RX3) (lv0 := [(0, .ref v0), (1, .ref v1)]) (by decide +kernel) rfl rfl (Nat.le_of_ble_eq_true rfl) ?_
  intro p l e s m args below meth c D cA B Hb C hin
  unfold f_X3_begin at hf0
  refine r_aload_n C dX3_begin_0 rfl ?_
  refine r_aload_n C dX3_begin_1 rfl ?_
  obtain ⟨h1, e2, hf0⟩ := ob hf0
  refine r_putR C fk_X3_35 (Or.inl ⟨_, rfl⟩) dX3_begin_2 e2 ?_
  refine r_aload_n C dX3_begin_5 rfl ?_
  obtain ⟨t3, e4, hf0⟩ := ob hf0
  refine r_getR C fk_X3_12 rfl dX3_begin_6 e4 ?_
  refine r_iconst (v := 0) C dX3_begin_9 (by decide) ?_
  obtain ⟨h5, e6, hf0⟩ := ob hf0
  refine r_putI C fk_X3_42 dX3_begin_10 e6 ?_
  refine r_aload_n C dX3_begin_13 rfl ?_
  obtain ⟨t7, e8, hf0⟩ := ob hf0
  refine r_getR C fk_X3_12 rfl dX3_begin_14 e8 ?_
  refine r_iconst (v := 0) C dX3_begin_17 (by decide) ?_
  obtain ⟨h9, e10, hf0⟩ := ob hf0
  refine r_putI C fk_X3_45 dX3_begin_18 e10 ?_
  refine r_aload_n C dX3_begin_21 rfl ?_
  obtain ⟨u12, e11, hf0⟩ := ob hf0
  obtain ⟨h13, e14, hf0⟩ := ob hf0
  refine r_cV (ci := 3) (rest := []) (st2 := []) C (s_X3_rebuild e14) mk_X3_rebuild rfl (ck_k e11) (by decide) im_X3_rebuild sl_X3_rebuild lk_X3_39 rfl rfl rfl dX3_begin_22 (Nat.le_of_ble_eq_true rfl) ⟨Nat.le_of_ble_eq_true rfl, Nat.le_of_ble_eq_true rfl⟩ ⟨Nat.le_of_ble_eq_true rfl, Nat.le_of_ble_eq_true rfl⟩ ?_
  obtain rfl := so hf0
  exact r_vret C dX3_begin_25
def f_X6_copyFrom (h : aH) (v0 : Nat) (v1 : Nat) : Option (aH) := (gR h 6 v1 0).bind fun t1 => (gR h 6 v0 0).bind fun t2 => (cpI h t1 (0 : Int32) t2 (0 : Int32) (12 : Int32)).bind fun h3 => (gR h3 6 v1 1).bind fun t4 => (gR h3 6 v0 1).bind fun t5 => (cpI h3 t4 (0 : Int32) t5 (0 : Int32) (12 : Int32)).bind fun h6 => (gR h6 6 v1 2).bind fun t7 => (gR h6 6 v0 2).bind fun t8 => (cpI h6 t7 (0 : Int32) t8 (0 : Int32) (12 : Int32)).bind fun h9 => (gR h9 6 v1 3).bind fun t10 => (gR h9 6 v0 3).bind fun t11 => (cpI h9 t10 (0 : Int32) t11 (0 : Int32) (12 : Int32)).bind fun h12 => (gI h12 6 v1 4).bind fun t13 => (pI h12 6 v0 4 t13).bind fun h14 => (gI h14 6 v1 5).bind fun t15 => (pI h14 6 v0 5 t15).bind fun h16 => some h16
theorem s_X6_copyFrom {h : aH} {v0 : Nat} {v1 : Nat} {out : aH} (hf0 : f_X6_copyFrom h v0 v1 = some out) : EV 1 yX6_copyFrom cX6_copyFrom 2 none h [.ref v0, .ref v1] none out 0 0 := by
  refine EV.of (own := RX6) (lv0 := [(0, .ref v0), (1, .ref v1)]) (by decide +kernel) rfl rfl (Nat.le_of_ble_eq_true rfl) ?_
  intro p l e s m args below meth c D cA B Hb C hin
  unfold f_X6_copyFrom at hf0
  refine r_aload_n C dX6_copyFrom_0 rfl ?_
  obtain ⟨t1, e2, hf0⟩ := ob hf0
  refine r_getR C fk_X6_9 rfl dX6_copyFrom_1 e2 ?_
  refine r_iconst (v := 0) C dX6_copyFrom_4 (by decide) ?_
  refine r_aload_n C dX6_copyFrom_5 rfl ?_
  obtain ⟨t3, e4, hf0⟩ := ob hf0
  refine r_getR C fk_X6_9 rfl dX6_copyFrom_6 e4 ?_
  refine r_iconst (v := 0) C dX6_copyFrom_9 (by decide) ?_
  refine r_bipush (v := 12) C dX6_copyFrom_10 (by decide) ?_
  obtain ⟨h5, e6, hf0⟩ := ob hf0
  refine r_cpI C lk_X6_31 dX6_copyFrom_12 ⟨Nat.le_of_ble_eq_true rfl, Nat.le_of_ble_eq_true rfl⟩ (by decide) e6 ?_
  refine r_aload_n C dX6_copyFrom_15 rfl ?_
  obtain ⟨t7, e8, hf0⟩ := ob hf0
  refine r_getR C fk_X6_15 rfl dX6_copyFrom_16 e8 ?_
  refine r_iconst (v := 0) C dX6_copyFrom_19 (by decide) ?_
  refine r_aload_n C dX6_copyFrom_20 rfl ?_
  obtain ⟨t9, e10, hf0⟩ := ob hf0
  refine r_getR C fk_X6_15 rfl dX6_copyFrom_21 e10 ?_
  refine r_iconst (v := 0) C dX6_copyFrom_24 (by decide) ?_
  refine r_bipush (v := 12) C dX6_copyFrom_25 (by decide) ?_
  obtain ⟨h11, e12, hf0⟩ := ob hf0
  refine r_cpI C lk_X6_31 dX6_copyFrom_27 ⟨Nat.le_of_ble_eq_true rfl, Nat.le_of_ble_eq_true rfl⟩ (by decide) e12 ?_
  refine r_aload_n C dX6_copyFrom_30 rfl ?_
  obtain ⟨t13, e14, hf0⟩ := ob hf0
  refine r_getR C fk_X6_18 rfl dX6_copyFrom_31 e14 ?_
  refine r_iconst (v := 0) C dX6_copyFrom_34 (by decide) ?_
  refine r_aload_n C dX6_copyFrom_35 rfl ?_
  obtain ⟨t15, e16, hf0⟩ := ob hf0
  refine r_getR C fk_X6_18 rfl dX6_copyFrom_36 e16 ?_
  refine r_iconst (v := 0) C dX6_copyFrom_39 (by decide) ?_
  refine r_bipush (v := 12) C dX6_copyFrom_40 (by decide) ?_
  obtain ⟨h17, e18, hf0⟩ := ob hf0
  refine r_cpI C lk_X6_31 dX6_copyFrom_42 ⟨Nat.le_of_ble_eq_true rfl, Nat.le_of_ble_eq_true rfl⟩ (by decide) e18 ?_
  refine r_aload_n C dX6_copyFrom_45 rfl ?_
  obtain ⟨t19, e20, hf0⟩ := ob hf0
  refine r_getR C fk_X6_21 rfl dX6_copyFrom_46 e20 ?_
  refine r_iconst (v := 0) C dX6_copyFrom_49 (by decide) ?_
  refine r_aload_n C dX6_copyFrom_50 rfl ?_
  obtain ⟨t21, e22, hf0⟩ := ob hf0
  refine r_getR C fk_X6_21 rfl dX6_copyFrom_51 e22 ?_
  refine r_iconst (v := 0) C dX6_copyFrom_54 (by decide) ?_
  refine r_bipush (v := 12) C dX6_copyFrom_55 (by decide) ?_
  obtain ⟨h23, e24, hf0⟩ := ob hf0
  refine r_cpI C lk_X6_31 dX6_copyFrom_57 ⟨Nat.le_of_ble_eq_true rfl, Nat.le_of_ble_eq_true rfl⟩ (by decide) e24 ?_
  refine r_aload_n C dX6_copyFrom_60 rfl ?_
  refine r_aload_n C dX6_copyFrom_61 rfl ?_
  obtain ⟨t25, e26, hf0⟩ := ob hf0
  refine r_getI C fk_X6_24 rfl dX6_copyFrom_62 e26 ?_
  obtain ⟨h27, e28, hf0⟩ := ob hf0
  refine r_putI C fk_X6_24 dX6_copyFrom_65 e28 ?_
  refine r_aload_n C dX6_copyFrom_68 rfl ?_
  refine r_aload_n C dX6_copyFrom_69 rfl ?_
  obtain ⟨t29, e30, hf0⟩ := ob hf0
  refine r_getI C fk_X6_28 rfl dX6_copyFrom_70 e30 ?_
  obtain ⟨h31, e32, hf0⟩ := ob hf0
  refine r_putI C fk_X6_28 dX6_copyFrom_73 e32 ?_
  obtain rfl := so hf0
  exact r_vret C dX6_copyFrom_76
def f_X3_resume (h : aH) (v0 : Nat) (v1 : Nat) (v2 : Nat) : Option (aH) := (pR h 3 v0 4 v1).bind fun h1 => (gR h1 3 v0 0).bind fun t2 => (ck h1 6 t2).bind fun _ => (f_X6_copyFrom h1 t2 v2).bind fun h3 => (ck h3 3 v0).bind fun _ => (f_X3_rebuild h3 v0).bind fun h4 => some h4
theorem s_X3_resume {h : aH} {v0 : Nat} {v1 : Nat} {v2 : Nat} {out : aH} (hf0 : f_X3_resume h v0 v1 v2 = some out) : EV 4 yX3_resume cX3_resume 3 none h [.ref v0, .ref v1, .ref v2] none out 0 0 := by
  refine EV.of (own := RX3) (lv0 := [(0, .ref v0), (1, .ref v1), (2, .ref v2)]) (by decide +kernel) rfl rfl (Nat.le_of_ble_eq_true rfl) ?_
  intro p l e s m args below meth c D cA B Hb C hin
  unfold f_X3_resume at hf0
  refine r_aload_n C dX3_resume_0 rfl ?_
  refine r_aload_n C dX3_resume_1 rfl ?_
  obtain ⟨h1, e2, hf0⟩ := ob hf0
  refine r_putR C fk_X3_35 (Or.inl ⟨_, rfl⟩) dX3_resume_2 e2 ?_
  refine r_aload_n C dX3_resume_5 rfl ?_
  obtain ⟨t3, e4, hf0⟩ := ob hf0
  refine r_getR C fk_X3_12 rfl dX3_resume_6 e4 ?_
  refine r_aload_n C dX3_resume_9 rfl ?_
  obtain ⟨u6, e5, hf0⟩ := ob hf0
  obtain ⟨h7, e8, hf0⟩ := ob hf0
  refine r_cV (ci := 6) (rest := []) (st2 := []) C (s_X6_copyFrom e8) mk_X6_copyFrom rfl (ck_k e5) (by decide) im_X6_copyFrom sl_X6_copyFrom lk_X3_48 rfl rfl rfl dX3_resume_10 (Nat.le_of_ble_eq_true rfl) ⟨Nat.le_of_ble_eq_true rfl, Nat.le_of_ble_eq_true rfl⟩ ⟨Nat.le_of_ble_eq_true rfl, Nat.le_of_ble_eq_true rfl⟩ ?_
  refine r_aload_n C dX3_resume_13 rfl ?_
  obtain ⟨u10, e9, hf0⟩ := ob hf0
  obtain ⟨h11, e12, hf0⟩ := ob hf0
  refine r_cV (ci := 3) (rest := []) (st2 := []) C (s_X3_rebuild e12) mk_X3_rebuild rfl (ck_k e9) (by decide) im_X3_rebuild sl_X3_rebuild lk_X3_39 rfl rfl rfl dX3_resume_14 (Nat.le_of_ble_eq_true rfl) ⟨Nat.le_of_ble_eq_true rfl, Nat.le_of_ble_eq_true rfl⟩ ⟨Nat.le_of_ble_eq_true rfl, Nat.le_of_ble_eq_true rfl⟩ ?_
  obtain rfl := so hf0
  exact r_vret C dX3_resume_17
def f_X6_add (h : aH) (v0 : Nat) (v1 : Int32) (v2 : Int32) (v3 : Int32) : Option (aH) := (gI h 6 v0 4).bind fun t1 => if (12 : Int32) ≤ t1 then some h else (gR h 6 v0 0).bind fun t2 => (gI h 6 v0 4).bind fun t3 => (sI h t2 t3 v1).bind fun h4 => (gR h4 6 v0 1).bind fun t5 => (gI h4 6 v0 4).bind fun t6 => (sI h4 t5 t6 v2).bind fun h7 => (gR h7 6 v0 2).bind fun t8 => (gI h7 6 v0 4).bind fun t9 => (sI h7 t8 t9 v3).bind fun h10 => (gR h10 6 v0 3).bind fun t11 => (gI h10 6 v0 4).bind fun t12 => (gI h10 6 v0 5).bind fun t13 => (sI h10 t11 t12 t13).bind fun h14 => (gI h14 6 v0 4).bind fun t15 => (pI h14 6 v0 4 (t15 + (1 : Int32))).bind fun h16 => some h16
theorem s_X6_add {h : aH} {v0 : Nat} {v1 : Int32} {v2 : Int32} {v3 : Int32} {out : aH} (hf0 : f_X6_add h v0 v1 v2 v3 = some out) : EV 0 yX6_add cX6_add 4 none h [.ref v0, .int v1, .int v2, .int v3] none out 0 0 := by
  refine EV.of (own := RX6) (lv0 := [(0, .ref v0), (1, .int v1), (2, .int v2), (3, .int v3)]) (by decide +kernel) rfl rfl (Nat.le_of_ble_eq_true rfl) ?_
  intro p l e s m args below meth c D cA B Hb C hin
  unfold f_X6_add at hf0
  refine r_aload_n C dX6_add_0 rfl ?_
  obtain ⟨t1, e2, hf0⟩ := ob hf0
  refine r_getI C fk_X6_24 rfl dX6_add_1 e2 ?_
  refine r_bipush (v := 12) C dX6_add_4 (by decide) ?_
  refine r_icmp_ge (tgt := 62) C dX6_add_6 (by decide) (fun c3 => ?_) (fun c3 => ?_)
  · rw [if_pos c3] at hf0
    obtain rfl := so hf0
    exact r_vret C dX6_add_62
  · rw [if_neg c3] at hf0
    refine r_aload_n C dX6_add_9 rfl ?_
    obtain ⟨t4, e5, hf0⟩ := ob hf0
    refine r_getR C fk_X6_9 rfl dX6_add_10 e5 ?_
    refine r_aload_n C dX6_add_13 rfl ?_
    obtain ⟨t6, e7, hf0⟩ := ob hf0
    refine r_getI C fk_X6_24 rfl dX6_add_14 e7 ?_
    refine r_iload_n C dX6_add_17 rfl ?_
    obtain ⟨h8, e9, hf0⟩ := ob hf0
    refine r_stI C dX6_add_18 e9 ?_
    refine r_aload_n C dX6_add_19 rfl ?_
    obtain ⟨t10, e11, hf0⟩ := ob hf0
    refine r_getR C fk_X6_15 rfl dX6_add_20 e11 ?_
    refine r_aload_n C dX6_add_23 rfl ?_
    obtain ⟨t12, e13, hf0⟩ := ob hf0
    refine r_getI C fk_X6_24 rfl dX6_add_24 e13 ?_
    refine r_iload_n C dX6_add_27 rfl ?_
    obtain ⟨h14, e15, hf0⟩ := ob hf0
    refine r_stI C dX6_add_28 e15 ?_
    refine r_aload_n C dX6_add_29 rfl ?_
    obtain ⟨t16, e17, hf0⟩ := ob hf0
    refine r_getR C fk_X6_18 rfl dX6_add_30 e17 ?_
    refine r_aload_n C dX6_add_33 rfl ?_
    obtain ⟨t18, e19, hf0⟩ := ob hf0
    refine r_getI C fk_X6_24 rfl dX6_add_34 e19 ?_
    refine r_iload_n C dX6_add_37 rfl ?_
    obtain ⟨h20, e21, hf0⟩ := ob hf0
    refine r_stI C dX6_add_38 e21 ?_
    refine r_aload_n C dX6_add_39 rfl ?_
    obtain ⟨t22, e23, hf0⟩ := ob hf0
    refine r_getR C fk_X6_21 rfl dX6_add_40 e23 ?_
    refine r_aload_n C dX6_add_43 rfl ?_
    obtain ⟨t24, e25, hf0⟩ := ob hf0
    refine r_getI C fk_X6_24 rfl dX6_add_44 e25 ?_
    refine r_aload_n C dX6_add_47 rfl ?_
    obtain ⟨t26, e27, hf0⟩ := ob hf0
    refine r_getI C fk_X6_28 rfl dX6_add_48 e27 ?_
    obtain ⟨h28, e29, hf0⟩ := ob hf0
    refine r_stI C dX6_add_51 e29 ?_
    refine r_aload_n C dX6_add_52 rfl ?_
    refine r_dup C dX6_add_53 rfl ?_
    obtain ⟨t30, e31, hf0⟩ := ob hf0
    refine r_getI C fk_X6_24 rfl dX6_add_54 e31 ?_
    refine r_iconst (v := 1) C dX6_add_57 (by decide) ?_
    refine r_iadd C dX6_add_58 ?_
    obtain ⟨h32, e33, hf0⟩ := ob hf0
    refine r_putI C fk_X6_24 dX6_add_59 e33 ?_
    obtain rfl := so hf0
    exact r_vret C dX6_add_62
def f_X3_enter (h : aH) (v0 : Nat) (v1 : Int32) (v2 : Int32) (v3 : Int32) : Option (aH) := (gR h 3 v0 0).bind fun t1 => (ck h 6 t1).bind fun _ => (f_X6_add h t1 v1 v2 v3).bind fun h2 => (gR h2 3 v0 0).bind fun t3 => (gI h2 6 t3 4).bind fun t4 => (ck h2 3 v0).bind fun _ => (f_X3_narrow h2 v0 (t4 - (1 : Int32))).bind fun h5 => some h5
theorem s_X3_enter {h : aH} {v0 : Nat} {v1 : Int32} {v2 : Int32} {v3 : Int32} {out : aH} (hf0 : f_X3_enter h v0 v1 v2 v3 = some out) : EV 3 yX3_enter cX3_enter 4 none h [.ref v0, .int v1, .int v2, .int v3] none out 0 0 := by
  refine EV.of (own := RX3) (lv0 := [(0, .ref v0), (1, .int v1), (2, .int v2), (3, .int v3)]) (by decide +kernel) rfl rfl (Nat.le_of_ble_eq_true rfl) ?_
  intro p l e s m args below meth c D cA B Hb C hin
  unfold f_X3_enter at hf0
  refine r_aload_n C dX3_enter_0 rfl ?_
  obtain ⟨t1, e2, hf0⟩ := ob hf0
  refine r_getR C fk_X3_12 rfl dX3_enter_1 e2 ?_
  refine r_iload_n C dX3_enter_4 rfl ?_
  refine r_iload_n C dX3_enter_5 rfl ?_
  refine r_iload_n C dX3_enter_6 rfl ?_
  obtain ⟨u4, e3, hf0⟩ := ob hf0
  obtain ⟨h5, e6, hf0⟩ := ob hf0
  refine r_cV (ci := 6) (rest := []) (st2 := []) C (s_X6_add e6) mk_X6_add rfl (ck_k e3) (by decide) im_X6_add sl_X6_add lk_X3_52 rfl rfl rfl dX3_enter_7 (Nat.le_of_ble_eq_true rfl) ⟨Nat.le_of_ble_eq_true rfl, Nat.le_of_ble_eq_true rfl⟩ ⟨Nat.le_of_ble_eq_true rfl, Nat.le_of_ble_eq_true rfl⟩ ?_
  refine r_aload_n C dX3_enter_10 rfl ?_
  refine r_aload_n C dX3_enter_11 rfl ?_
  obtain ⟨t7, e8, hf0⟩ := ob hf0
  refine r_getR C fk_X3_12 rfl dX3_enter_12 e8 ?_
  obtain ⟨t9, e10, hf0⟩ := ob hf0
  refine r_getI C fk_X3_42 rfl dX3_enter_15 e10 ?_
  refine r_iconst (v := 1) C dX3_enter_18 (by decide) ?_
  refine r_isub C dX3_enter_19 ?_
  obtain ⟨u12, e11, hf0⟩ := ob hf0
  obtain ⟨h13, e14, hf0⟩ := ob hf0
  refine r_cV (ci := 3) (rest := []) (st2 := []) C (s_X3_narrow e14) mk_X3_narrow rfl (ck_k e11) (by decide) im_X3_narrow sl_X3_narrow lk_X3_56 rfl rfl rfl dX3_enter_20 (Nat.le_of_ble_eq_true rfl) ⟨Nat.le_of_ble_eq_true rfl, Nat.le_of_ble_eq_true rfl⟩ ⟨Nat.le_of_ble_eq_true rfl, Nat.le_of_ble_eq_true rfl⟩ ?_
  obtain rfl := so hf0
  exact r_vret C dX3_enter_23
def f_X3_strike (h : aH) (v0 : Nat) : Option (aH) := (gR h 3 v0 0).bind fun t1 => (gI h 6 t1 4).bind fun t2 => (pI h 6 t1 4 (t2 - (1 : Int32))).bind fun h3 => (ck h3 3 v0).bind fun _ => (f_X3_rebuild h3 v0).bind fun h4 => some h4
theorem s_X3_strike {h : aH} {v0 : Nat} {out : aH} (hf0 : f_X3_strike h v0 = some out) : EV 4 yX3_strike cX3_strike 1 none h [.ref v0] none out 0 0 := by
  refine EV.of (own := RX3) (lv0 := [(0, .ref v0)]) (by decide +kernel) rfl rfl (Nat.le_of_ble_eq_true rfl) ?_
  intro p l e s m args below meth c D cA B Hb C hin
  unfold f_X3_strike at hf0
  refine r_aload_n C dX3_strike_0 rfl ?_
  obtain ⟨t1, e2, hf0⟩ := ob hf0
  refine r_getR C fk_X3_12 rfl dX3_strike_1 e2 ?_
  refine r_dup C dX3_strike_4 rfl ?_
  obtain ⟨t3, e4, hf0⟩ := ob hf0
  refine r_getI C fk_X3_42 rfl dX3_strike_5 e4 ?_
  refine r_iconst (v := 1) C dX3_strike_8 (by decide) ?_
  refine r_isub C dX3_strike_9 ?_
  obtain ⟨h5, e6, hf0⟩ := ob hf0
  refine r_putI C fk_X3_42 dX3_strike_10 e6 ?_
  refine r_aload_n C dX3_strike_13 rfl ?_
  obtain ⟨u8, e7, hf0⟩ := ob hf0
  obtain ⟨h9, e10, hf0⟩ := ob hf0
  refine r_cV (ci := 3) (rest := []) (st2 := []) C (s_X3_rebuild e10) mk_X3_rebuild rfl (ck_k e7) (by decide) im_X3_rebuild sl_X3_rebuild lk_X3_39 rfl rfl rfl dX3_strike_14 (Nat.le_of_ble_eq_true rfl) ⟨Nat.le_of_ble_eq_true rfl, Nat.le_of_ble_eq_true rfl⟩ ⟨Nat.le_of_ble_eq_true rfl, Nat.le_of_ble_eq_true rfl⟩ ?_
  obtain rfl := so hf0
  exact r_vret C dX3_strike_17
def f_X3_lives_b2 (h : aH) (v0 : Nat) (v1 : Int32) (v2 : Int32) : Option ((Int32) ⊕ ((Unit) ⊕ (Unit))) := (gI h 3 v0 5).bind fun t1 => if t1 ≤ v2 then some (.inr (.inr ())) else (gR h 3 v0 2).bind fun t2 => (lI h t2 v2).bind fun t3 => if t3 = v1 then some (.inr (.inl ())) else (some (v2 + (1 : Int32))).bind fun t4 => some (.inl t4)
def f_X3_lives_l2 (h : aH) (v0 : Nat) (v1 : Int32) (v2 : Int32) : Option ((Unit) ⊕ (Unit)) := whileL wN (fun q : Int32 => f_X3_lives_b2 h v0 v1 q) v2
def f_X3_lives (h : aH) (v0 : Nat) (v1 : Int32) : Option (Int32) := (f_X3_lives_l2 h v0 v1 (0 : Int32)).bind fun e => match e with | .inl _ => some (1 : Int32) | .inr _ => some (0 : Int32)
theorem s_X3_lives {h : aH} {v0 : Nat} {v1 : Int32} {out : Int32} (hf0 : f_X3_lives h v0 v1 = some out) : EV 0 yX3_lives cX3_lives 3 (some .boolean) h [.ref v0, .int v1] (some (.int out)) h 0 0 := by
  refine EV.of (own := RX3) (lv0 := [(0, .ref v0), (1, .int v1)]) (by decide +kernel) rfl rfl (Nat.le_of_ble_eq_true rfl) ?_
  intro p l e s m args below meth c D cA B Hb C hin
  unfold f_X3_lives at hf0
  refine r_iconst (v := 0) C dX3_lives_0 (by decide) ?_
  refine r_istore_n (lv' := [(2, .int (0 : Int32)), (0, .ref v0), (1, .int v1)]) C dX3_lives_1 (by decide) rfl rfl ?_
  obtain ⟨y1, hl2, hf0⟩ := ob hf0
  have L2 : ∀ (n : Nat) (t2 : Int32), whileL n (fun q : Int32 => f_X3_lives_b2 h v0 v1 q) t2 = some y1 → gW p l e (rmO 0 0 0) s m args below meth c (MQ below (eQ D cA B Hb h (some (.int out))) args s 0 0 (fun q => B ≤ q)) D cA B Hb 3 h 2 [(0, .ref v0), (1, .int v1), (2, .int t2)] [] 0 0 := by
    intro n
    induction n with
    | zero => intro t2 hz; cases hz
    | succ n ih2 =>
      intro t2 hz
      obtain ⟨x2, hf1, hk2⟩ := wl hz
      replace hf1 : f_X3_lives_b2 h v0 v1 t2 = some x2 := hf1
      unfold f_X3_lives_b2 at hf1
      refine r_iload_n C dX3_lives_2 rfl ?_
      refine r_aload_n C dX3_lives_3 rfl ?_
      obtain ⟨t3, e4, hf1⟩ := ob hf1
      refine r_getI C fk_X3_28 rfl dX3_lives_4 e4 ?_
      refine r_icmp_ge (tgt := 28) C dX3_lives_7 (by decide) (fun c5 => ?_) (fun c5 => ?_)
      · rw [if_pos c5] at hf1
        obtain rfl := so hf1
        obtain rfl := so (show some (.inr () : (Unit) ⊕ (Unit)) = some y1 from hk2)
        dsimp only at hf0
        refine r_iconst (v := 0) C dX3_lives_28 (by decide) ?_
        obtain rfl := so hf0
        exact r_zret C dX3_lives_29 (Or.inl rfl)
      · rw [if_neg c5] at hf1
        refine r_aload_n C dX3_lives_10 rfl ?_
        obtain ⟨t6, e7, hf1⟩ := ob hf1
        refine r_getR C fk_X3_22 rfl dX3_lives_11 e7 ?_
        refine r_iload_n C dX3_lives_14 rfl ?_
        obtain ⟨t8, e9, hf1⟩ := ob hf1
        refine r_ldI C dX3_lives_15 e9 ?_
        refine r_iload_n C dX3_lives_16 rfl ?_
        refine r_icmp_ne (tgt := 22) C dX3_lives_17 (by decide) (fun c10 => ?_) (fun c10 => ?_)
        · rw [if_neg c10] at hf1
          obtain ⟨t11, e12, hf1⟩ := ob hf1
          refine r_iinc (lv' := [(2, .int t11), (0, .ref v0), (1, .int v1)]) C dX3_lives_22 rfl e12 (by decide) rfl ?_
          refine r_goto (tgt := 2) C dX3_lives_25 (by decide) ?_
          obtain rfl := so hf1
          refine r_subk [1, 2, 0] (lv' := [(0, .ref v0), (1, .int v1), (2, .int t11)]) rfl ?_
          exact ih2 t11 hk2
        · rw [if_pos c10] at hf1
          obtain rfl := so hf1
          obtain rfl := so (show some (.inl () : (Unit) ⊕ (Unit)) = some y1 from hk2)
          dsimp only at hf0
          refine r_iconst (v := 1) C dX3_lives_20 (by decide) ?_
          obtain rfl := so hf0
          exact r_zret C dX3_lives_21 (Or.inr rfl)
  refine r_subk [1, 2, 0] (lv' := [(0, .ref v0), (1, .int v1), (2, .int (0 : Int32))]) rfl ?_
  exact L2 wN (0 : Int32) hl2
def f_X3_wasPut (h : aH) (v0 : Nat) (v1 : Int32) : Option (Int32) := (gI h 3 v0 6).bind fun t1 => if ((t1 >>> (v1 &&& 31)) &&& (1 : Int32)) = 0 then some (0 : Int32) else some (1 : Int32)
theorem s_X3_wasPut {h : aH} {v0 : Nat} {v1 : Int32} {out : Int32} (hf0 : f_X3_wasPut h v0 v1 = some out) : EV 0 yX3_wasPut cX3_wasPut 2 (some .boolean) h [.ref v0, .int v1] (some (.int out)) h 0 0 := by
  refine EV.of (own := RX3) (lv0 := [(0, .ref v0), (1, .int v1)]) (by decide +kernel) rfl rfl (Nat.le_of_ble_eq_true rfl) ?_
  intro p l e s m args below meth c D cA B Hb C hin
  unfold f_X3_wasPut at hf0
  refine r_aload_n C dX3_wasPut_0 rfl ?_
  obtain ⟨t1, e2, hf0⟩ := ob hf0
  refine r_getI C fk_X3_32 rfl dX3_wasPut_1 e2 ?_
  refine r_iload_n C dX3_wasPut_4 rfl ?_
  refine r_ishr C dX3_wasPut_5 ?_
  refine r_iconst (v := 1) C dX3_wasPut_6 (by decide) ?_
  refine r_iand C dX3_wasPut_7 ?_
  refine r_ifeq (tgt := 15) C dX3_wasPut_8 (by decide) (fun c3 => ?_) (fun c3 => ?_)
  · rw [if_pos c3] at hf0
    refine r_iconst (v := 0) C dX3_wasPut_15 (by decide) ?_
    obtain rfl := so hf0
    exact r_zret C dX3_wasPut_16 (Or.inl rfl)
  · rw [if_neg c3] at hf0
    refine r_iconst (v := 1) C dX3_wasPut_11 (by decide) ?_
    refine r_goto (tgt := 16) C dX3_wasPut_12 (by decide) ?_
    obtain rfl := so hf0
    exact r_zret C dX3_wasPut_16 (Or.inr rfl)
def f_X3_certainty_j56 (h : aH) (v2 : Int32) : Option (Int32) := if v2 = 0 then some (0 : Int32) else some (1 : Int32)
def f_X3_certainty_b4 (h : aH) (v0 : Nat) (v1 : Int32) (v2 : Int32) (v3 : Int32) : Option ((Int32 × Int32) ⊕ (Int32)) := (gI h 3 v0 5).bind fun t1 => if t1 ≤ v3 then some (.inr v2) else (gR h 3 v0 4).bind fun t2 => (gR h 3 v0 2).bind fun t3 => (lI h t3 v3).bind fun t4 => (ck h 1 t2).bind fun _ => (f_X1_inQuestion h t2 v1 t4).bind fun t5 => (some (v2 + t5)).bind fun t6 => (some (v3 + (1 : Int32))).bind fun t7 => some (.inl (t6, t7))
def f_X3_certainty_l4 (h : aH) (v0 : Nat) (v1 : Int32) (v2 : Int32) (v3 : Int32) : Option (Int32) := whileL wN (fun q : Int32 × Int32 => f_X3_certainty_b4 h v0 v1 q.1 q.2) (v2, v3)
def f_X3_certainty (h : aH) (v0 : Nat) (v1 : Int32) : Option (Int32) := (f_X3_certainty_l4 h v0 v1 (0 : Int32) (0 : Int32)).bind fun t8 => (gI h 3 v0 5).bind fun t9 => if t9 = 0 then some (-1 : Int32) else if t8 = 0 then f_X3_certainty_j56 h t8 else (gI h 3 v0 5).bind fun t10 => if t8 = t10 then f_X3_certainty_j56 h t8 else some (-1 : Int32)
theorem s_X3_certainty {h : aH} {v0 : Nat} {v1 : Int32} {out : Int32} (hf0 : f_X3_certainty h v0 v1 = some out) : EV 1 yX3_certainty cX3_certainty 4 (some .int) h [.ref v0, .int v1] (some (.int out)) h 0 0 := by
  refine EV.of (own := RX3) (lv0 := [(0, .ref v0), (1, .int v1)]) (by decide +kernel) rfl rfl (Nat.le_of_ble_eq_true rfl) ?_
  intro p l e s m args below meth c D cA B Hb C hin
  unfold f_X3_certainty at hf0
  have J56 : ∀ (t1 : Int32), f_X3_certainty_j56 h t1 = some out → gW p l e (rmO 1 0 0) s m args below meth c (MQ below (eQ D cA B Hb h (some (.int out))) args s 0 0 (fun q => B ≤ q)) D cA B Hb 4 h 56 [(2, .int t1)] [] 0 0 := by
    intro t1 hf0
    unfold f_X3_certainty_j56 at hf0
    refine r_iload_n C dX3_certainty_56 rfl ?_
    refine r_ifne (tgt := 64) C dX3_certainty_57 (by decide) (fun c2 => ?_) (fun c2 => ?_)
    · rw [if_neg c2] at hf0
      refine r_iconst (v := 1) C dX3_certainty_64 (by decide) ?_
      obtain rfl := so hf0
      exact r_iret C dX3_certainty_65
    · rw [if_pos c2] at hf0
      refine r_iconst (v := 0) C dX3_certainty_60 (by decide) ?_
      refine r_goto (tgt := 65) C dX3_certainty_61 (by decide) ?_
      obtain rfl := so hf0
      exact r_iret C dX3_certainty_65
  refine r_iconst (v := 0) C dX3_certainty_0 (by decide) ?_
  refine r_istore_n (lv' := [(2, .int (0 : Int32)), (0, .ref v0), (1, .int v1)]) C dX3_certainty_1 (by decide) rfl rfl ?_
  refine r_iconst (v := 0) C dX3_certainty_2 (by decide) ?_
  refine r_istore_n (lv' := [(3, .int (0 : Int32)), (2, .int (0 : Int32)), (0, .ref v0), (1, .int v1)]) C dX3_certainty_3 (by decide) rfl rfl ?_
  obtain ⟨y3, hl4, hf0⟩ := ob hf0
  have L4 : ∀ (n : Nat) (t4 : Int32) (t5 : Int32), whileL n (fun q : Int32 × Int32 => f_X3_certainty_b4 h v0 v1 q.1 q.2) (t4, t5) = some y3 → gW p l e (rmO 1 0 0) s m args below meth c (MQ below (eQ D cA B Hb h (some (.int out))) args s 0 0 (fun q => B ≤ q)) D cA B Hb 4 h 4 [(0, .ref v0), (1, .int v1), (2, .int t4), (3, .int t5)] [] 0 0 := by
    intro n
    induction n with
    | zero => intro t4 t5 hz; cases hz
    | succ n ih4 =>
      intro t4 t5 hz
      obtain ⟨x4, hf1, hk4⟩ := wl hz
      replace hf1 : f_X3_certainty_b4 h v0 v1 t4 t5 = some x4 := hf1
      unfold f_X3_certainty_b4 at hf1
      refine r_iload_n C dX3_certainty_4 rfl ?_
      refine r_aload_n C dX3_certainty_5 rfl ?_
      obtain ⟨t6, e7, hf1⟩ := ob hf1
      refine r_getI C fk_X3_28 rfl dX3_certainty_6 e7 ?_
      refine r_icmp_ge (tgt := 35) C dX3_certainty_9 (by decide) (fun c8 => ?_) (fun c8 => ?_)
      · rw [if_pos c8] at hf1
        obtain rfl := so hf1
        obtain rfl := so (show some t4 = some y3 from hk4)
        refine r_aload_n C dX3_certainty_35 rfl ?_
        obtain ⟨t9, e10, hf0⟩ := ob hf0
        refine r_getI C fk_X3_28 rfl dX3_certainty_36 e10 ?_
        refine r_ifeq (tgt := 54) C dX3_certainty_39 (by decide) (fun c11 => ?_) (fun c11 => ?_)
        · rw [if_pos c11] at hf0
          refine r_iconst (v := -1) C dX3_certainty_54 (by decide) ?_
          obtain rfl := so hf0
          exact r_iret C dX3_certainty_55
        · rw [if_neg c11] at hf0
          refine r_iload_n C dX3_certainty_42 rfl ?_
          refine r_ifeq (tgt := 56) C dX3_certainty_43 (by decide) (fun c12 => ?_) (fun c12 => ?_)
          · rw [if_pos c12] at hf0
            refine r_subk [2] (lv' := [(2, .int t4)]) rfl ?_
            exact J56 t4 hf0
          · rw [if_neg c12] at hf0
            refine r_iload_n C dX3_certainty_46 rfl ?_
            refine r_aload_n C dX3_certainty_47 rfl ?_
            obtain ⟨t13, e14, hf0⟩ := ob hf0
            refine r_getI C fk_X3_28 rfl dX3_certainty_48 e14 ?_
            refine r_icmp_eq (tgt := 56) C dX3_certainty_51 (by decide) (fun c15 => ?_) (fun c15 => ?_)
            · rw [if_pos c15] at hf0
              refine r_subk [2] (lv' := [(2, .int t4)]) rfl ?_
              exact J56 t4 hf0
            · rw [if_neg c15] at hf0
              refine r_iconst (v := -1) C dX3_certainty_54 (by decide) ?_
              obtain rfl := so hf0
              exact r_iret C dX3_certainty_55
      · rw [if_neg c8] at hf1
        refine r_iload_n C dX3_certainty_12 rfl ?_
        refine r_aload_n C dX3_certainty_13 rfl ?_
        obtain ⟨t16, e17, hf1⟩ := ob hf1
        refine r_getR C fk_X3_35 rfl dX3_certainty_14 e17 ?_
        refine r_iload_n C dX3_certainty_17 rfl ?_
        refine r_aload_n C dX3_certainty_18 rfl ?_
        obtain ⟨t18, e19, hf1⟩ := ob hf1
        refine r_getR C fk_X3_22 rfl dX3_certainty_19 e19 ?_
        refine r_iload_n C dX3_certainty_22 rfl ?_
        obtain ⟨t20, e21, hf1⟩ := ob hf1
        refine r_ldI C dX3_certainty_23 e21 ?_
        obtain ⟨u23, e22, hf1⟩ := ob hf1
        obtain ⟨t24, e25, hf1⟩ := ob hf1
        refine r_cV (ci := 1) (rest := [.int t4]) (st2 := [.int t24, .int t4]) C (s_X1_inQuestion e25) mk_X1_inQuestion rfl (ck_k e22) (by decide) im_X1_inQuestion sl_X1_inQuestion lk_X3_96 rfl rfl rfl dX3_certainty_24 (Nat.le_of_ble_eq_true rfl) ⟨Nat.le_of_ble_eq_true rfl, Nat.le_of_ble_eq_true rfl⟩ ⟨Nat.le_of_ble_eq_true rfl, Nat.le_of_ble_eq_true rfl⟩ ?_
        refine r_iadd C dX3_certainty_27 ?_
        obtain ⟨t26, e27, hf1⟩ := ob hf1
        refine r_istore_n (lv' := [(2, .int t26), (0, .ref v0), (1, .int v1), (3, .int t5)]) C dX3_certainty_28 (by decide) e27 rfl ?_
        obtain ⟨t28, e29, hf1⟩ := ob hf1
        refine r_iinc (lv' := [(3, .int t28), (2, .int t26), (0, .ref v0), (1, .int v1)]) C dX3_certainty_29 rfl e29 (by decide) rfl ?_
        refine r_goto (tgt := 4) C dX3_certainty_32 (by decide) ?_
        obtain rfl := so hf1
        refine r_subk [2, 3, 1, 0] (lv' := [(0, .ref v0), (1, .int v1), (2, .int t26), (3, .int t28)]) rfl ?_
        exact ih4 t26 t28 hk4
  refine r_subk [2, 3, 1, 0] (lv' := [(0, .ref v0), (1, .int v1), (2, .int (0 : Int32)), (3, .int (0 : Int32))]) rfl ?_
  exact L4 wN (0 : Int32) (0 : Int32) hl4
def f_X3_weightOf_j90 (h : aH) (v0 : Nat) (v1 : Int32) (v2 : Int32) (v3 : Int32) (v4 : Int64) (v6 : Int32) (v7 : Int32) (v8 : Int32) (v9 : Int32) : Option ((Int32 × Int32) ⊕ (Int32)) := (some (v9 + (1 : Int32))).bind fun t8 => some (.inl (v8, t8))
def f_X3_weightOf_j70 (h : aH) (v0 : Nat) (v1 : Int32) (v2 : Int32) (v3 : Int32) (v4 : Int64) (v6 : Int32) (v7 : Int32) (v8 : Int32) (v9 : Int32) : Option ((Int32 × Int32) ⊕ (Int32)) := (gR h 3 v0 4).bind fun t9 => (gR h 1 t9 8).bind fun t10 => (lI h t10 ((v6 * (4 : Int32)) + v9)).bind fun t11 => (some (v8 + t11)).bind fun t12 => f_X3_weightOf_j90 h v0 v1 v2 v3 v4 v6 v7 t12 v9
def f_X3_weightOf_b42 (h : aH) (v0 : Nat) (v1 : Int32) (v2 : Int32) (v3 : Int32) (v4 : Int64) (v6 : Int32) (v7 : Int32) (v8 : Int32) (v9 : Int32) : Option ((Int32 × Int32) ⊕ (Int32)) := if (4 : Int32) ≤ v9 then some (.inr v8) else if ((v7 >>> (v9 &&& 31)) &&& (1 : Int32)) = 0 then f_X3_weightOf_j90 h v0 v1 v2 v3 v4 v6 v7 v8 v9 else if v6 = v2 then if v9 = v3 then f_X3_weightOf_j70 h v0 v1 v2 v3 v4 v6 v7 v8 v9 else f_X3_weightOf_j90 h v0 v1 v2 v3 v4 v6 v7 v8 v9 else f_X3_weightOf_j70 h v0 v1 v2 v3 v4 v6 v7 v8 v9
def f_X3_weightOf_l42 (h : aH) (v0 : Nat) (v1 : Int32) (v2 : Int32) (v3 : Int32) (v4 : Int64) (v6 : Int32) (v7 : Int32) (v8 : Int32) (v9 : Int32) : Option (Int32) := whileL wN (fun q : Int32 × Int32 => f_X3_weightOf_b42 h v0 v1 v2 v3 v4 v6 v7 q.1 q.2) (v8, v9)
def f_X3_weightOf_b15 (h : aH) (v0 : Nat) (v1 : Int32) (v2 : Int32) (v3 : Int32) (v4 : Int64) (v6 : Int32) : Option ((Int64 × Int32) ⊕ (Int64)) := (gR h 3 v0 4).bind fun t5 => (gI h 1 t5 17).bind fun t6 => if t6 ≤ v6 then some (.inr v4) else (ck h 3 v0).bind fun _ => (f_X3_kindsLeft h v0 v6 v1).bind fun t7 => (f_X3_weightOf_l42 h v0 v1 v2 v3 v4 v6 t7 (0 : Int32) (0 : Int32)).bind fun t13 => (some (v4 * (Int32.toInt64 t13))).bind fun t14 => (some (v6 + (1 : Int32))).bind fun t15 => some (.inl (t14, t15))
def f_X3_weightOf_l15 (h : aH) (v0 : Nat) (v1 : Int32) (v2 : Int32) (v3 : Int32) (v4 : Int64) (v6 : Int32) : Option (Int64) := whileL wN (fun q : Int64 × Int32 => f_X3_weightOf_b15 h v0 v1 v2 v3 q.1 q.2) (v4, v6)
def f_X3_weightOf (h : aH) (v0 : Nat) (v1 : Int32) (v2 : Int32) (v3 : Int32) : Option (Int64) := (gR h 3 v0 4).bind fun t1 => (gR h 1 t1 5).bind fun t2 => (lI h t2 v1).bind fun t3 => (some (Int32.toInt64 t3)).bind fun t4 => (f_X3_weightOf_l15 h v0 v1 v2 v3 t4 (0 : Int32)).bind fun t16 => some t16
theorem s_X3_weightOf {h : aH} {v0 : Nat} {v1 : Int32} {v2 : Int32} {v3 : Int32} {out : Int64} (hf0 : f_X3_weightOf h v0 v1 v2 v3 = some out) : EV 1 yX3_weightOf cX3_weightOf 10 (some .long) h [.ref v0, .int v1, .int v2, .int v3] (some (.long out)) h 0 0 := by
  refine EV.of (own := RX3) (lv0 := [(0, .ref v0), (1, .int v1), (2, .int v2), (3, .int v3)]) (by decide +kernel) rfl rfl (Nat.le_of_ble_eq_true rfl) ?_
  intro p l e s m args below meth c D cA B Hb C hin
  unfold f_X3_weightOf at hf0
  refine r_aload_n C dX3_weightOf_0 rfl ?_
  obtain ⟨t1, e2, hf0⟩ := ob hf0
  refine r_getR C fk_X3_35 rfl dX3_weightOf_1 e2 ?_
  obtain ⟨t3, e4, hf0⟩ := ob hf0
  refine r_getR C fk_X3_107 rfl dX3_weightOf_4 e4 ?_
  refine r_iload_n C dX3_weightOf_7 rfl ?_
  obtain ⟨t5, e6, hf0⟩ := ob hf0
  refine r_ldI C dX3_weightOf_8 e6 ?_
  refine r_i2l C dX3_weightOf_9 ?_
  obtain ⟨t7, e8, hf0⟩ := ob hf0
  refine r_lstore (lv' := [(4, .long t7), (0, .ref v0), (1, .int v1), (2, .int v2), (3, .int v3)]) C dX3_weightOf_10 (by decide) e8 rfl ?_
  refine r_iconst (v := 0) C dX3_weightOf_12 (by decide) ?_
  refine r_istore (lv' := [(6, .int (0 : Int32)), (4, .long t7), (0, .ref v0), (1, .int v1), (2, .int v2), (3, .int v3)]) C dX3_weightOf_13 (by decide) rfl rfl ?_
  obtain ⟨y9, hl15, hf0⟩ := ob hf0
  have L15 : ∀ (n : Nat) (t10 : Int64) (t11 : Int32), whileL n (fun q : Int64 × Int32 => f_X3_weightOf_b15 h v0 v1 v2 v3 q.1 q.2) (t10, t11) = some y9 → gW p l e (rmO 1 0 0) s m args below meth c (MQ below (eQ D cA B Hb h (some (.long out))) args s 0 0 (fun q => B ≤ q)) D cA B Hb 10 h 15 [(0, .ref v0), (1, .int v1), (2, .int v2), (3, .int v3), (4, .long t10), (6, .int t11)] [] 0 0 := by
    intro n
    induction n with
    | zero => intro t10 t11 hz; cases hz
    | succ n ih15 =>
      intro t10 t11 hz
      obtain ⟨x15, hf1, hk15⟩ := wl hz
      replace hf1 : f_X3_weightOf_b15 h v0 v1 v2 v3 t10 t11 = some x15 := hf1
      unfold f_X3_weightOf_b15 at hf1
      refine r_iload C dX3_weightOf_15 rfl ?_
      refine r_aload_n C dX3_weightOf_17 rfl ?_
      obtain ⟨t12, e13, hf1⟩ := ob hf1
      refine r_getR C fk_X3_35 rfl dX3_weightOf_18 e13 ?_
      obtain ⟨t14, e15, hf1⟩ := ob hf1
      refine r_getI C fk_X3_110 rfl dX3_weightOf_21 e15 ?_
      refine r_icmp_ge (tgt := 110) C dX3_weightOf_24 (by decide) (fun c16 => ?_) (fun c16 => ?_)
      · rw [if_pos c16] at hf1
        obtain rfl := so hf1
        obtain rfl := so (show some t10 = some y9 from hk15)
        refine r_lload C dX3_weightOf_110 rfl ?_
        obtain rfl := so hf0
        exact r_lret C dX3_weightOf_112
      · rw [if_neg c16] at hf1
        refine r_aload_n C dX3_weightOf_27 rfl ?_
        refine r_iload C dX3_weightOf_28 rfl ?_
        refine r_iload_n C dX3_weightOf_30 rfl ?_
        obtain ⟨u18, e17, hf1⟩ := ob hf1
        obtain ⟨t19, e20, hf1⟩ := ob hf1
        refine r_cV (ci := 3) (rest := []) (st2 := [.int t19]) C (s_X3_kindsLeft e20) mk_X3_kindsLeft rfl (ck_k e17) (by decide) im_X3_kindsLeft sl_X3_kindsLeft lk_X3_80 rfl rfl rfl dX3_weightOf_31 (Nat.le_of_ble_eq_true rfl) ⟨Nat.le_of_ble_eq_true rfl, Nat.le_of_ble_eq_true rfl⟩ ⟨Nat.le_of_ble_eq_true rfl, Nat.le_of_ble_eq_true rfl⟩ ?_
        refine r_istore (lv' := [(7, .int t19), (0, .ref v0), (1, .int v1), (2, .int v2), (3, .int v3), (4, .long t10), (6, .int t11)]) C dX3_weightOf_34 (by decide) rfl rfl ?_
        refine r_iconst (v := 0) C dX3_weightOf_36 (by decide) ?_
        refine r_istore (lv' := [(8, .int (0 : Int32)), (7, .int t19), (0, .ref v0), (1, .int v1), (2, .int v2), (3, .int v3), (4, .long t10), (6, .int t11)]) C dX3_weightOf_37 (by decide) rfl rfl ?_
        refine r_iconst (v := 0) C dX3_weightOf_39 (by decide) ?_
        refine r_istore (lv' := [(9, .int (0 : Int32)), (8, .int (0 : Int32)), (7, .int t19), (0, .ref v0), (1, .int v1), (2, .int v2), (3, .int v3), (4, .long t10), (6, .int t11)]) C dX3_weightOf_40 (by decide) rfl rfl ?_
        obtain ⟨y21, hl42, hf1⟩ := ob hf1
        have L42 : ∀ (n : Nat) (t22 : Int32) (t23 : Int32), whileL n (fun q : Int32 × Int32 => f_X3_weightOf_b42 h v0 v1 v2 v3 t10 t11 t19 q.1 q.2) (t22, t23) = some y21 → gW p l e (rmO 1 0 0) s m args below meth c (MQ below (eQ D cA B Hb h (some (.long out))) args s 0 0 (fun q => B ≤ q)) D cA B Hb 10 h 42 [(0, .ref v0), (1, .int v1), (2, .int v2), (3, .int v3), (4, .long t10), (6, .int t11), (7, .int t19), (8, .int t22), (9, .int t23)] [] 0 0 := by
          intro n
          induction n with
          | zero => intro t22 t23 hz; cases hz
          | succ n ih42 =>
            intro t22 t23 hz
            obtain ⟨x42, hf2, hk42⟩ := wl hz
            replace hf2 : f_X3_weightOf_b42 h v0 v1 v2 v3 t10 t11 t19 t22 t23 = some x42 := hf2
            unfold f_X3_weightOf_b42 at hf2
            have J90 : ∀ (t24 : Int32) (t25 : Int32), f_X3_weightOf_j90 h v0 v1 v2 v3 t10 t11 t19 t24 t25 = some x42 → gW p l e (rmO 1 0 0) s m args below meth c (MQ below (eQ D cA B Hb h (some (.long out))) args s 0 0 (fun q => B ≤ q)) D cA B Hb 10 h 90 [(0, .ref v0), (1, .int v1), (2, .int v2), (3, .int v3), (4, .long t10), (6, .int t11), (7, .int t19), (8, .int t24), (9, .int t25)] [] 0 0 := by
              intro t24 t25 hf2
              unfold f_X3_weightOf_j90 at hf2
              obtain ⟨t26, e27, hf2⟩ := ob hf2
              refine r_iinc (lv' := [(9, .int t26), (0, .ref v0), (1, .int v1), (2, .int v2), (3, .int v3), (4, .long t10), (6, .int t11), (7, .int t19), (8, .int t24)]) C dX3_weightOf_90 rfl e27 (by decide) rfl ?_
              refine r_goto (tgt := 42) C dX3_weightOf_93 (by decide) ?_
              obtain rfl := so hf2
              refine r_subk [1, 2, 3, 4, 5, 6, 7, 8, 0] (lv' := [(0, .ref v0), (1, .int v1), (2, .int v2), (3, .int v3), (4, .long t10), (6, .int t11), (7, .int t19), (8, .int t24), (9, .int t26)]) rfl ?_
              exact ih42 t24 t26 hk42
            have J70 : ∀ (t28 : Int32) (t29 : Int32), f_X3_weightOf_j70 h v0 v1 v2 v3 t10 t11 t19 t28 t29 = some x42 → gW p l e (rmO 1 0 0) s m args below meth c (MQ below (eQ D cA B Hb h (some (.long out))) args s 0 0 (fun q => B ≤ q)) D cA B Hb 10 h 70 [(0, .ref v0), (1, .int v1), (2, .int v2), (3, .int v3), (4, .long t10), (6, .int t11), (7, .int t19), (8, .int t28), (9, .int t29)] [] 0 0 := by
              intro t28 t29 hf2
              unfold f_X3_weightOf_j70 at hf2
              refine r_iload C dX3_weightOf_70 rfl ?_
              refine r_aload_n C dX3_weightOf_72 rfl ?_
              obtain ⟨t30, e31, hf2⟩ := ob hf2
              refine r_getR C fk_X3_35 rfl dX3_weightOf_73 e31 ?_
              obtain ⟨t32, e33, hf2⟩ := ob hf2
              refine r_getR C fk_X3_113 rfl dX3_weightOf_76 e33 ?_
              refine r_iload C dX3_weightOf_79 rfl ?_
              refine r_iconst (v := 4) C dX3_weightOf_81 (by decide) ?_
              refine r_imul C dX3_weightOf_82 ?_
              refine r_iload C dX3_weightOf_83 rfl ?_
              refine r_iadd C dX3_weightOf_85 ?_
              obtain ⟨t34, e35, hf2⟩ := ob hf2
              refine r_ldI C dX3_weightOf_86 e35 ?_
              refine r_iadd C dX3_weightOf_87 ?_
              obtain ⟨t36, e37, hf2⟩ := ob hf2
              refine r_istore (lv' := [(8, .int t36), (0, .ref v0), (1, .int v1), (2, .int v2), (3, .int v3), (4, .long t10), (6, .int t11), (7, .int t19), (9, .int t29)]) C dX3_weightOf_88 (by decide) e37 rfl ?_
              refine r_subk [1, 2, 3, 4, 5, 6, 7, 0, 8] (lv' := [(0, .ref v0), (1, .int v1), (2, .int v2), (3, .int v3), (4, .long t10), (6, .int t11), (7, .int t19), (8, .int t36), (9, .int t29)]) rfl ?_
              exact J90 t36 t29 hf2
            refine r_iload C dX3_weightOf_42 rfl ?_
            refine r_iconst (v := 4) C dX3_weightOf_44 (by decide) ?_
            refine r_icmp_ge (tgt := 96) C dX3_weightOf_45 (by decide) (fun c38 => ?_) (fun c38 => ?_)
            · rw [if_pos c38] at hf2
              obtain rfl := so hf2
              obtain rfl := so (show some t22 = some y21 from hk42)
              refine r_lload C dX3_weightOf_96 rfl ?_
              refine r_iload C dX3_weightOf_98 rfl ?_
              refine r_i2l C dX3_weightOf_100 ?_
              refine r_lmul C dX3_weightOf_101 ?_
              obtain ⟨t39, e40, hf1⟩ := ob hf1
              refine r_lstore (lv' := [(4, .long t39), (0, .ref v0), (1, .int v1), (2, .int v2), (3, .int v3), (6, .int t11), (7, .int t19), (8, .int t22), (9, .int t23)]) C dX3_weightOf_102 (by decide) e40 rfl ?_
              obtain ⟨t41, e42, hf1⟩ := ob hf1
              refine r_iinc (lv' := [(6, .int t41), (4, .long t39), (0, .ref v0), (1, .int v1), (2, .int v2), (3, .int v3), (7, .int t19), (8, .int t22), (9, .int t23)]) C dX3_weightOf_104 rfl e42 (by decide) rfl ?_
              refine r_goto (tgt := 15) C dX3_weightOf_107 (by decide) ?_
              obtain rfl := so hf1
              refine r_subk [2, 3, 4, 5, 1, 0] (lv' := [(0, .ref v0), (1, .int v1), (2, .int v2), (3, .int v3), (4, .long t39), (6, .int t41)]) rfl ?_
              exact ih15 t39 t41 hk15
            · rw [if_neg c38] at hf2
              refine r_iload C dX3_weightOf_48 rfl ?_
              refine r_iload C dX3_weightOf_50 rfl ?_
              refine r_ishr C dX3_weightOf_52 ?_
              refine r_iconst (v := 1) C dX3_weightOf_53 (by decide) ?_
              refine r_iand C dX3_weightOf_54 ?_
              refine r_ifeq (tgt := 90) C dX3_weightOf_55 (by decide) (fun c43 => ?_) (fun c43 => ?_)
              · rw [if_pos c43] at hf2
                exact J90 t22 t23 hf2
              · rw [if_neg c43] at hf2
                refine r_iload C dX3_weightOf_58 rfl ?_
                refine r_iload_n C dX3_weightOf_60 rfl ?_
                refine r_icmp_ne (tgt := 70) C dX3_weightOf_61 (by decide) (fun c44 => ?_) (fun c44 => ?_)
                · rw [if_neg c44] at hf2
                  exact J70 t22 t23 hf2
                · rw [if_pos c44] at hf2
                  refine r_iload C dX3_weightOf_64 rfl ?_
                  refine r_iload_n C dX3_weightOf_66 rfl ?_
                  refine r_icmp_ne (tgt := 90) C dX3_weightOf_67 (by decide) (fun c45 => ?_) (fun c45 => ?_)
                  · rw [if_neg c45] at hf2
                    exact J90 t22 t23 hf2
                  · rw [if_pos c45] at hf2
                    exact J70 t22 t23 hf2
        refine r_subk [3, 4, 5, 6, 7, 8, 2, 1, 0] (lv' := [(0, .ref v0), (1, .int v1), (2, .int v2), (3, .int v3), (4, .long t10), (6, .int t11), (7, .int t19), (8, .int (0 : Int32)), (9, .int (0 : Int32))]) rfl ?_
        exact L42 wN (0 : Int32) (0 : Int32) hl42
  refine r_subk [2, 3, 4, 5, 1, 0] (lv' := [(0, .ref v0), (1, .int v1), (2, .int v2), (3, .int v3), (4, .long t7), (6, .int (0 : Int32))]) rfl ?_
  exact L15 wN t7 (0 : Int32) hl15
def f_X3_weightWith_b5 (h : aH) (v0 : Nat) (v1 : Int32) (v2 : Int32) (v3 : Int64) (v5 : Int32) : Option ((Int64 × Int32) ⊕ (Int64)) := (gI h 3 v0 5).bind fun t1 => if t1 ≤ v5 then some (.inr v3) else (gR h 3 v0 2).bind fun t2 => (lI h t2 v5).bind fun t3 => (ck h 3 v0).bind fun _ => (f_X3_weightOf h v0 t3 v1 v2).bind fun t4 => (some (v3 + t4)).bind fun t5 => (some (v5 + (1 : Int32))).bind fun t6 => some (.inl (t5, t6))
def f_X3_weightWith_l5 (h : aH) (v0 : Nat) (v1 : Int32) (v2 : Int32) (v3 : Int64) (v5 : Int32) : Option (Int64) := whileL wN (fun q : Int64 × Int32 => f_X3_weightWith_b5 h v0 v1 v2 q.1 q.2) (v3, v5)
def f_X3_weightWith (h : aH) (v0 : Nat) (v1 : Int32) (v2 : Int32) : Option (Int64) := (f_X3_weightWith_l5 h v0 v1 v2 (0 : Int64) (0 : Int32)).bind fun t7 => some t7
theorem s_X3_weightWith {h : aH} {v0 : Nat} {v1 : Int32} {v2 : Int32} {out : Int64} (hf0 : f_X3_weightWith h v0 v1 v2 = some out) : EV 2 yX3_weightWith cX3_weightWith 6 (some .long) h [.ref v0, .int v1, .int v2] (some (.long out)) h 0 0 := by
  refine EV.of (own := RX3) (lv0 := [(0, .ref v0), (1, .int v1), (2, .int v2)]) (by decide +kernel) rfl rfl (Nat.le_of_ble_eq_true rfl) ?_
  intro p l e s m args below meth c D cA B Hb C hin
  unfold f_X3_weightWith at hf0
  refine r_lconst (v := 0) C dX3_weightWith_0 (by decide) ?_
  refine r_lstore_n (lv' := [(3, .long (0 : Int64)), (0, .ref v0), (1, .int v1), (2, .int v2)]) C dX3_weightWith_1 (by decide) rfl rfl ?_
  refine r_iconst (v := 0) C dX3_weightWith_2 (by decide) ?_
  refine r_istore (lv' := [(5, .int (0 : Int32)), (3, .long (0 : Int64)), (0, .ref v0), (1, .int v1), (2, .int v2)]) C dX3_weightWith_3 (by decide) rfl rfl ?_
  obtain ⟨y1, hl5, hf0⟩ := ob hf0
  have L5 : ∀ (n : Nat) (t2 : Int64) (t3 : Int32), whileL n (fun q : Int64 × Int32 => f_X3_weightWith_b5 h v0 v1 v2 q.1 q.2) (t2, t3) = some y1 → gW p l e (rmO 2 0 0) s m args below meth c (MQ below (eQ D cA B Hb h (some (.long out))) args s 0 0 (fun q => B ≤ q)) D cA B Hb 6 h 5 [(0, .ref v0), (1, .int v1), (2, .int v2), (3, .long t2), (5, .int t3)] [] 0 0 := by
    intro n
    induction n with
    | zero => intro t2 t3 hz; cases hz
    | succ n ih5 =>
      intro t2 t3 hz
      obtain ⟨x5, hf1, hk5⟩ := wl hz
      replace hf1 : f_X3_weightWith_b5 h v0 v1 v2 t2 t3 = some x5 := hf1
      unfold f_X3_weightWith_b5 at hf1
      refine r_iload C dX3_weightWith_5 rfl ?_
      refine r_aload_n C dX3_weightWith_7 rfl ?_
      obtain ⟨t4, e5, hf1⟩ := ob hf1
      refine r_getI C fk_X3_28 rfl dX3_weightWith_8 e5 ?_
      refine r_icmp_ge (tgt := 36) C dX3_weightWith_11 (by decide) (fun c6 => ?_) (fun c6 => ?_)
      · rw [if_pos c6] at hf1
        obtain rfl := so hf1
        obtain rfl := so (show some t2 = some y1 from hk5)
        refine r_lload_n C dX3_weightWith_36 rfl ?_
        obtain rfl := so hf0
        exact r_lret C dX3_weightWith_37
      · rw [if_neg c6] at hf1
        refine r_lload_n C dX3_weightWith_14 rfl ?_
        refine r_aload_n C dX3_weightWith_15 rfl ?_
        refine r_aload_n C dX3_weightWith_16 rfl ?_
        obtain ⟨t7, e8, hf1⟩ := ob hf1
        refine r_getR C fk_X3_22 rfl dX3_weightWith_17 e8 ?_
        refine r_iload C dX3_weightWith_20 rfl ?_
        obtain ⟨t9, e10, hf1⟩ := ob hf1
        refine r_ldI C dX3_weightWith_22 e10 ?_
        refine r_iload_n C dX3_weightWith_23 rfl ?_
        refine r_iload_n C dX3_weightWith_24 rfl ?_
        obtain ⟨u12, e11, hf1⟩ := ob hf1
        obtain ⟨t13, e14, hf1⟩ := ob hf1
        refine r_cV (ci := 3) (rest := [.long t2]) (st2 := [.long t13, .long t2]) C (s_X3_weightOf e14) mk_X3_weightOf rfl (ck_k e11) (by decide) im_X3_weightOf sl_X3_weightOf lk_X3_103 rfl rfl rfl dX3_weightWith_25 (Nat.le_of_ble_eq_true rfl) ⟨Nat.le_of_ble_eq_true rfl, Nat.le_of_ble_eq_true rfl⟩ ⟨Nat.le_of_ble_eq_true rfl, Nat.le_of_ble_eq_true rfl⟩ ?_
        refine r_ladd C dX3_weightWith_28 ?_
        obtain ⟨t15, e16, hf1⟩ := ob hf1
        refine r_lstore_n (lv' := [(3, .long t15), (0, .ref v0), (1, .int v1), (2, .int v2), (5, .int t3)]) C dX3_weightWith_29 (by decide) e16 rfl ?_
        obtain ⟨t17, e18, hf1⟩ := ob hf1
        refine r_iinc (lv' := [(5, .int t17), (3, .long t15), (0, .ref v0), (1, .int v1), (2, .int v2)]) C dX3_weightWith_30 rfl e18 (by decide) rfl ?_
        refine r_goto (tgt := 5) C dX3_weightWith_33 (by decide) ?_
        obtain rfl := so hf1
        refine r_subk [2, 3, 4, 1, 0] (lv' := [(0, .ref v0), (1, .int v1), (2, .int v2), (3, .long t15), (5, .int t17)]) rfl ?_
        exact ih5 t15 t17 hk5
  refine r_subk [2, 3, 4, 1, 0] (lv' := [(0, .ref v0), (1, .int v1), (2, .int v2), (3, .long (0 : Int64)), (5, .int (0 : Int32))]) rfl ?_
  exact L5 wN (0 : Int64) (0 : Int32) hl5
def f_X3_weightOfAll (h : aH) (v0 : Nat) : Option (Int64) := (ck h 3 v0).bind fun _ => (f_X3_weightWith h v0 (-1 : Int32) (-1 : Int32)).bind fun t1 => some t1
theorem s_X3_weightOfAll {h : aH} {v0 : Nat} {out : Int64} (hf0 : f_X3_weightOfAll h v0 = some out) : EV 3 yX3_weightOfAll cX3_weightOfAll 1 (some .long) h [.ref v0] (some (.long out)) h 0 0 := by
  refine EV.of (own := RX3) (lv0 := [(0, .ref v0)]) (by decide +kernel) rfl rfl (Nat.le_of_ble_eq_true rfl) ?_
  intro p l e s m args below meth c D cA B Hb C hin
  unfold f_X3_weightOfAll at hf0
  refine r_aload_n C dX3_weightOfAll_0 rfl ?_
  refine r_iconst (v := -1) C dX3_weightOfAll_1 (by decide) ?_
  refine r_iconst (v := -1) C dX3_weightOfAll_2 (by decide) ?_
  obtain ⟨u2, e1, hf0⟩ := ob hf0
  obtain ⟨t3, e4, hf0⟩ := ob hf0
  refine r_cV (ci := 3) (rest := []) (st2 := [.long t3]) C (s_X3_weightWith e4) mk_X3_weightWith rfl (ck_k e1) (by decide) im_X3_weightWith sl_X3_weightWith lk_X3_99 rfl rfl rfl dX3_weightOfAll_3 (Nat.le_of_ble_eq_true rfl) ⟨Nat.le_of_ble_eq_true rfl, Nat.le_of_ble_eq_true rfl⟩ ⟨Nat.le_of_ble_eq_true rfl, Nat.le_of_ble_eq_true rfl⟩ ?_
  obtain rfl := so hf0
  exact r_lret C dX3_weightOfAll_6
def f_X3_weightIn_j49 (h : aH) (v0 : Nat) (v1 : Int32) (v2 : Int64) (v4 : Int32) : Option ((Int64 × Int32) ⊕ (Int64)) := (some (v4 + (1 : Int32))).bind fun t1 => some (.inl (v2, t1))
def f_X3_weightIn_b5 (h : aH) (v0 : Nat) (v1 : Int32) (v2 : Int64) (v4 : Int32) : Option ((Int64 × Int32) ⊕ (Int64)) := (gI h 3 v0 5).bind fun t2 => if t2 ≤ v4 then some (.inr v2) else (gR h 3 v0 4).bind fun t3 => (gR h 3 v0 2).bind fun t4 => (lI h t4 v4).bind fun t5 => (ck h 1 t3).bind fun _ => (f_X1_inQuestion h t3 v1 t5).bind fun t6 => if t6 = (1 : Int32) then (gR h 3 v0 2).bind fun t7 => (lI h t7 v4).bind fun t8 => (ck h 3 v0).bind fun _ => (f_X3_weightOf h v0 t8 (-1 : Int32) (-1 : Int32)).bind fun t9 => (some (v2 + t9)).bind fun t10 => f_X3_weightIn_j49 h v0 v1 t10 v4 else f_X3_weightIn_j49 h v0 v1 v2 v4
def f_X3_weightIn_l5 (h : aH) (v0 : Nat) (v1 : Int32) (v2 : Int64) (v4 : Int32) : Option (Int64) := whileL wN (fun q : Int64 × Int32 => f_X3_weightIn_b5 h v0 v1 q.1 q.2) (v2, v4)
def f_X3_weightIn (h : aH) (v0 : Nat) (v1 : Int32) : Option (Int64) := (f_X3_weightIn_l5 h v0 v1 (0 : Int64) (0 : Int32)).bind fun t11 => some t11
theorem s_X3_weightIn {h : aH} {v0 : Nat} {v1 : Int32} {out : Int64} (hf0 : f_X3_weightIn h v0 v1 = some out) : EV 2 yX3_weightIn cX3_weightIn 5 (some .long) h [.ref v0, .int v1] (some (.long out)) h 0 0 := by
  refine EV.of (own := RX3) (lv0 := [(0, .ref v0), (1, .int v1)]) (by decide +kernel) rfl rfl (Nat.le_of_ble_eq_true rfl) ?_
  intro p l e s m args below meth c D cA B Hb C hin
  unfold f_X3_weightIn at hf0
  refine r_lconst (v := 0) C dX3_weightIn_0 (by decide) ?_
  refine r_lstore_n (lv' := [(2, .long (0 : Int64)), (0, .ref v0), (1, .int v1)]) C dX3_weightIn_1 (by decide) rfl rfl ?_
  refine r_iconst (v := 0) C dX3_weightIn_2 (by decide) ?_
  refine r_istore (lv' := [(4, .int (0 : Int32)), (2, .long (0 : Int64)), (0, .ref v0), (1, .int v1)]) C dX3_weightIn_3 (by decide) rfl rfl ?_
  obtain ⟨y1, hl5, hf0⟩ := ob hf0
  have L5 : ∀ (n : Nat) (t2 : Int64) (t3 : Int32), whileL n (fun q : Int64 × Int32 => f_X3_weightIn_b5 h v0 v1 q.1 q.2) (t2, t3) = some y1 → gW p l e (rmO 2 0 0) s m args below meth c (MQ below (eQ D cA B Hb h (some (.long out))) args s 0 0 (fun q => B ≤ q)) D cA B Hb 5 h 5 [(0, .ref v0), (1, .int v1), (2, .long t2), (4, .int t3)] [] 0 0 := by
    intro n
    induction n with
    | zero => intro t2 t3 hz; cases hz
    | succ n ih5 =>
      intro t2 t3 hz
      obtain ⟨x5, hf1, hk5⟩ := wl hz
      replace hf1 : f_X3_weightIn_b5 h v0 v1 t2 t3 = some x5 := hf1
      unfold f_X3_weightIn_b5 at hf1
      have J49 : ∀ (t4 : Int64) (t5 : Int32), f_X3_weightIn_j49 h v0 v1 t4 t5 = some x5 → gW p l e (rmO 2 0 0) s m args below meth c (MQ below (eQ D cA B Hb h (some (.long out))) args s 0 0 (fun q => B ≤ q)) D cA B Hb 5 h 49 [(0, .ref v0), (1, .int v1), (2, .long t4), (4, .int t5)] [] 0 0 := by
        intro t4 t5 hf1
        unfold f_X3_weightIn_j49 at hf1
        obtain ⟨t6, e7, hf1⟩ := ob hf1
        refine r_iinc (lv' := [(4, .int t6), (0, .ref v0), (1, .int v1), (2, .long t4)]) C dX3_weightIn_49 rfl e7 (by decide) rfl ?_
        refine r_goto (tgt := 5) C dX3_weightIn_52 (by decide) ?_
        obtain rfl := so hf1
        refine r_subk [1, 2, 3, 0] (lv' := [(0, .ref v0), (1, .int v1), (2, .long t4), (4, .int t6)]) rfl ?_
        exact ih5 t4 t6 hk5
      refine r_iload C dX3_weightIn_5 rfl ?_
      refine r_aload_n C dX3_weightIn_7 rfl ?_
      obtain ⟨t8, e9, hf1⟩ := ob hf1
      refine r_getI C fk_X3_28 rfl dX3_weightIn_8 e9 ?_
      refine r_icmp_ge (tgt := 55) C dX3_weightIn_11 (by decide) (fun c10 => ?_) (fun c10 => ?_)
      · rw [if_pos c10] at hf1
        obtain rfl := so hf1
        obtain rfl := so (show some t2 = some y1 from hk5)
        refine r_lload_n C dX3_weightIn_55 rfl ?_
        obtain rfl := so hf0
        exact r_lret C dX3_weightIn_56
      · rw [if_neg c10] at hf1
        refine r_aload_n C dX3_weightIn_14 rfl ?_
        obtain ⟨t11, e12, hf1⟩ := ob hf1
        refine r_getR C fk_X3_35 rfl dX3_weightIn_15 e12 ?_
        refine r_iload_n C dX3_weightIn_18 rfl ?_
        refine r_aload_n C dX3_weightIn_19 rfl ?_
        obtain ⟨t13, e14, hf1⟩ := ob hf1
        refine r_getR C fk_X3_22 rfl dX3_weightIn_20 e14 ?_
        refine r_iload C dX3_weightIn_23 rfl ?_
        obtain ⟨t15, e16, hf1⟩ := ob hf1
        refine r_ldI C dX3_weightIn_25 e16 ?_
        obtain ⟨u18, e17, hf1⟩ := ob hf1
        obtain ⟨t19, e20, hf1⟩ := ob hf1
        refine r_cV (ci := 1) (rest := []) (st2 := [.int t19]) C (s_X1_inQuestion e20) mk_X1_inQuestion rfl (ck_k e17) (by decide) im_X1_inQuestion sl_X1_inQuestion lk_X3_96 rfl rfl rfl dX3_weightIn_26 (Nat.le_of_ble_eq_true rfl) ⟨Nat.le_of_ble_eq_true rfl, Nat.le_of_ble_eq_true rfl⟩ ⟨Nat.le_of_ble_eq_true rfl, Nat.le_of_ble_eq_true rfl⟩ ?_
        refine r_iconst (v := 1) C dX3_weightIn_29 (by decide) ?_
        refine r_icmp_ne (tgt := 49) C dX3_weightIn_30 (by decide) (fun c21 => ?_) (fun c21 => ?_)
        · rw [if_neg c21] at hf1
          exact J49 t2 t3 hf1
        · rw [if_pos c21] at hf1
          refine r_lload_n C dX3_weightIn_33 rfl ?_
          refine r_aload_n C dX3_weightIn_34 rfl ?_
          refine r_aload_n C dX3_weightIn_35 rfl ?_
          obtain ⟨t22, e23, hf1⟩ := ob hf1
          refine r_getR C fk_X3_22 rfl dX3_weightIn_36 e23 ?_
          refine r_iload C dX3_weightIn_39 rfl ?_
          obtain ⟨t24, e25, hf1⟩ := ob hf1
          refine r_ldI C dX3_weightIn_41 e25 ?_
          refine r_iconst (v := -1) C dX3_weightIn_42 (by decide) ?_
          refine r_iconst (v := -1) C dX3_weightIn_43 (by decide) ?_
          obtain ⟨u27, e26, hf1⟩ := ob hf1
          obtain ⟨t28, e29, hf1⟩ := ob hf1
          refine r_cV (ci := 3) (rest := [.long t2]) (st2 := [.long t28, .long t2]) C (s_X3_weightOf e29) mk_X3_weightOf rfl (ck_k e26) (by decide) im_X3_weightOf sl_X3_weightOf lk_X3_103 rfl rfl rfl dX3_weightIn_44 (Nat.le_of_ble_eq_true rfl) ⟨Nat.le_of_ble_eq_true rfl, Nat.le_of_ble_eq_true rfl⟩ ⟨Nat.le_of_ble_eq_true rfl, Nat.le_of_ble_eq_true rfl⟩ ?_
          refine r_ladd C dX3_weightIn_47 ?_
          obtain ⟨t30, e31, hf1⟩ := ob hf1
          refine r_lstore_n (lv' := [(2, .long t30), (0, .ref v0), (1, .int v1), (4, .int t3)]) C dX3_weightIn_48 (by decide) e31 rfl ?_
          refine r_subk [1, 2, 0, 3] (lv' := [(0, .ref v0), (1, .int v1), (2, .long t30), (4, .int t3)]) rfl ?_
          exact J49 t30 t3 hf1
  refine r_subk [2, 3, 1, 0] (lv' := [(0, .ref v0), (1, .int v1), (2, .long (0 : Int64)), (4, .int (0 : Int32))]) rfl ?_
  exact L5 wN (0 : Int64) (0 : Int32) hl5
def f_X3_takenAwayBy_j65 (h : aH) (v0 : Nat) (v1 : Int32) (v2 : Int32) (v3 : Int32) : Option ((Int32 × Int32) ⊕ (Int32)) := (some (v3 + (1 : Int32))).bind fun t1 => some (.inl (v2, t1))
def f_X3_takenAwayBy_b4 (h : aH) (v0 : Nat) (v1 : Int32) (v2 : Int32) (v3 : Int32) : Option ((Int32 × Int32) ⊕ (Int32)) := (gR h 3 v0 4).bind fun t2 => (gI h 1 t2 14).bind fun t3 => if t3 ≤ v3 then some (.inr v2) else (gR h 3 v0 0).bind fun t4 => (gR h 6 t4 0).bind fun t5 => (lI h t5 v1).bind fun t6 => (some (t6 * (4 : Int32))).bind fun t7 => (gR h 3 v0 4).bind fun t8 => (ck h 1 t8).bind fun _ => (f_X1_canBe h t8 v3).bind fun t9 => if t9 = 0 then f_X3_takenAwayBy_j65 h v0 v1 v2 v3 else (ck h 3 v0).bind fun _ => (f_X3_agreeing h v0 v1 v3).bind fun t10 => (gR h 3 v0 4).bind fun t11 => (gI h 1 t11 18).bind fun t12 => if ((t10 &&& t12) &&& ((15 : Int32) <<< (t7 &&& 31))) = 0 then (some (v2 + (1 : Int32))).bind fun t13 => f_X3_takenAwayBy_j65 h v0 v1 t13 v3 else f_X3_takenAwayBy_j65 h v0 v1 v2 v3
def f_X3_takenAwayBy_l4 (h : aH) (v0 : Nat) (v1 : Int32) (v2 : Int32) (v3 : Int32) : Option (Int32) := whileL wN (fun q : Int32 × Int32 => f_X3_takenAwayBy_b4 h v0 v1 q.1 q.2) (v2, v3)
def f_X3_takenAwayBy (h : aH) (v0 : Nat) (v1 : Int32) : Option (Int32) := (f_X3_takenAwayBy_l4 h v0 v1 (0 : Int32) (0 : Int32)).bind fun t14 => some t14
theorem s_X3_takenAwayBy {h : aH} {v0 : Nat} {v1 : Int32} {out : Int32} (hf0 : f_X3_takenAwayBy h v0 v1 = some out) : EV 2 yX3_takenAwayBy cX3_takenAwayBy 5 (some .int) h [.ref v0, .int v1] (some (.int out)) h 0 0 := by
  refine EV.of (own := RX3) (lv0 := [(0, .ref v0), (1, .int v1)]) (by decide +kernel) rfl rfl (Nat.le_of_ble_eq_true rfl) ?_
  intro p l e s m args below meth c D cA B Hb C hin
  unfold f_X3_takenAwayBy at hf0
  refine r_iconst (v := 0) C dX3_takenAwayBy_0 (by decide) ?_
  refine r_istore_n (lv' := [(2, .int (0 : Int32)), (0, .ref v0), (1, .int v1)]) C dX3_takenAwayBy_1 (by decide) rfl rfl ?_
  refine r_iconst (v := 0) C dX3_takenAwayBy_2 (by decide) ?_
  refine r_istore_n (lv' := [(3, .int (0 : Int32)), (2, .int (0 : Int32)), (0, .ref v0), (1, .int v1)]) C dX3_takenAwayBy_3 (by decide) rfl rfl ?_
  obtain ⟨y1, hl4, hf0⟩ := ob hf0
  have L4 : ∀ (n : Nat) (t2 : Int32) (t3 : Int32), whileL n (fun q : Int32 × Int32 => f_X3_takenAwayBy_b4 h v0 v1 q.1 q.2) (t2, t3) = some y1 → gW p l e (rmO 2 0 0) s m args below meth c (MQ below (eQ D cA B Hb h (some (.int out))) args s 0 0 (fun q => B ≤ q)) D cA B Hb 5 h 4 [(0, .ref v0), (1, .int v1), (2, .int t2), (3, .int t3)] [] 0 0 := by
    intro n
    induction n with
    | zero => intro t2 t3 hz; cases hz
    | succ n ih4 =>
      intro t2 t3 hz
      obtain ⟨x4, hf1, hk4⟩ := wl hz
      replace hf1 : f_X3_takenAwayBy_b4 h v0 v1 t2 t3 = some x4 := hf1
      unfold f_X3_takenAwayBy_b4 at hf1
      have J65 : ∀ (t4 : Int32) (t5 : Int32), f_X3_takenAwayBy_j65 h v0 v1 t4 t5 = some x4 → gW p l e (rmO 2 0 0) s m args below meth c (MQ below (eQ D cA B Hb h (some (.int out))) args s 0 0 (fun q => B ≤ q)) D cA B Hb 5 h 65 [(0, .ref v0), (1, .int v1), (2, .int t4), (3, .int t5)] [] 0 0 := by
        intro t4 t5 hf1
        unfold f_X3_takenAwayBy_j65 at hf1
        obtain ⟨t6, e7, hf1⟩ := ob hf1
        refine r_iinc (lv' := [(3, .int t6), (0, .ref v0), (1, .int v1), (2, .int t4)]) C dX3_takenAwayBy_65 rfl e7 (by decide) rfl ?_
        refine r_goto (tgt := 4) C dX3_takenAwayBy_68 (by decide) ?_
        obtain rfl := so hf1
        refine r_subk [1, 2, 3, 0] (lv' := [(0, .ref v0), (1, .int v1), (2, .int t4), (3, .int t6)]) rfl ?_
        exact ih4 t4 t6 hk4
      refine r_iload_n C dX3_takenAwayBy_4 rfl ?_
      refine r_aload_n C dX3_takenAwayBy_5 rfl ?_
      obtain ⟨t8, e9, hf1⟩ := ob hf1
      refine r_getR C fk_X3_35 rfl dX3_takenAwayBy_6 e9 ?_
      obtain ⟨t10, e11, hf1⟩ := ob hf1
      refine r_getI C fk_X3_60 rfl dX3_takenAwayBy_9 e11 ?_
      refine r_icmp_ge (tgt := 71) C dX3_takenAwayBy_12 (by decide) (fun c12 => ?_) (fun c12 => ?_)
      · rw [if_pos c12] at hf1
        obtain rfl := so hf1
        obtain rfl := so (show some t2 = some y1 from hk4)
        refine r_iload_n C dX3_takenAwayBy_71 rfl ?_
        obtain rfl := so hf0
        exact r_iret C dX3_takenAwayBy_72
      · rw [if_neg c12] at hf1
        refine r_aload_n C dX3_takenAwayBy_15 rfl ?_
        obtain ⟨t13, e14, hf1⟩ := ob hf1
        refine r_getR C fk_X3_12 rfl dX3_takenAwayBy_16 e14 ?_
        obtain ⟨t15, e16, hf1⟩ := ob hf1
        refine r_getR C fk_X3_77 rfl dX3_takenAwayBy_19 e16 ?_
        refine r_iload_n C dX3_takenAwayBy_22 rfl ?_
        obtain ⟨t17, e18, hf1⟩ := ob hf1
        refine r_ldI C dX3_takenAwayBy_23 e18 ?_
        refine r_iconst (v := 4) C dX3_takenAwayBy_24 (by decide) ?_
        refine r_imul C dX3_takenAwayBy_25 ?_
        obtain ⟨t19, e20, hf1⟩ := ob hf1
        refine r_istore (lv' := [(4, .int t19), (0, .ref v0), (1, .int v1), (2, .int t2), (3, .int t3)]) C dX3_takenAwayBy_26 (by decide) e20 rfl ?_
        refine r_aload_n C dX3_takenAwayBy_28 rfl ?_
        obtain ⟨t21, e22, hf1⟩ := ob hf1
        refine r_getR C fk_X3_35 rfl dX3_takenAwayBy_29 e22 ?_
        refine r_iload_n C dX3_takenAwayBy_32 rfl ?_
        obtain ⟨u24, e23, hf1⟩ := ob hf1
        obtain ⟨t25, e26, hf1⟩ := ob hf1
        refine r_cV (ci := 1) (rest := []) (st2 := [.int t25]) C (s_X1_canBe e26) mk_X1_canBe rfl (ck_k e23) (by decide) im_X1_canBe sl_X1_canBe lk_X3_66 rfl rfl rfl dX3_takenAwayBy_33 (Nat.le_of_ble_eq_true rfl) ⟨Nat.le_of_ble_eq_true rfl, Nat.le_of_ble_eq_true rfl⟩ ⟨Nat.le_of_ble_eq_true rfl, Nat.le_of_ble_eq_true rfl⟩ ?_
        refine r_ifeq (tgt := 65) C dX3_takenAwayBy_36 (by decide) (fun c27 => ?_) (fun c27 => ?_)
        · rw [if_pos c27] at hf1
          refine r_subk [1, 2, 3, 4] (lv' := [(0, .ref v0), (1, .int v1), (2, .int t2), (3, .int t3)]) rfl ?_
          exact J65 t2 t3 hf1
        · rw [if_neg c27] at hf1
          refine r_aload_n C dX3_takenAwayBy_39 rfl ?_
          refine r_iload_n C dX3_takenAwayBy_40 rfl ?_
          refine r_iload_n C dX3_takenAwayBy_41 rfl ?_
          obtain ⟨u29, e28, hf1⟩ := ob hf1
          obtain ⟨t30, e31, hf1⟩ := ob hf1
          refine r_cV (ci := 3) (rest := []) (st2 := [.int t30]) C (s_X3_agreeing e31) mk_X3_agreeing rfl (ck_k e28) (by decide) im_X3_agreeing sl_X3_agreeing lk_X3_73 rfl rfl rfl dX3_takenAwayBy_42 (Nat.le_of_ble_eq_true rfl) ⟨Nat.le_of_ble_eq_true rfl, Nat.le_of_ble_eq_true rfl⟩ ⟨Nat.le_of_ble_eq_true rfl, Nat.le_of_ble_eq_true rfl⟩ ?_
          refine r_aload_n C dX3_takenAwayBy_45 rfl ?_
          obtain ⟨t32, e33, hf1⟩ := ob hf1
          refine r_getR C fk_X3_35 rfl dX3_takenAwayBy_46 e33 ?_
          obtain ⟨t34, e35, hf1⟩ := ob hf1
          refine r_getI C fk_X3_93 rfl dX3_takenAwayBy_49 e35 ?_
          refine r_iand C dX3_takenAwayBy_52 ?_
          refine r_bipush (v := 15) C dX3_takenAwayBy_53 (by decide) ?_
          refine r_iload C dX3_takenAwayBy_55 rfl ?_
          refine r_ishl C dX3_takenAwayBy_57 ?_
          refine r_iand C dX3_takenAwayBy_58 ?_
          refine r_ifne (tgt := 65) C dX3_takenAwayBy_59 (by decide) (fun c36 => ?_) (fun c36 => ?_)
          · rw [if_neg c36] at hf1
            refine r_subk [1, 2, 3, 4] (lv' := [(0, .ref v0), (1, .int v1), (2, .int t2), (3, .int t3)]) rfl ?_
            exact J65 t2 t3 hf1
          · rw [if_pos c36] at hf1
            obtain ⟨t37, e38, hf1⟩ := ob hf1
            refine r_iinc (lv' := [(2, .int t37), (4, .int t19), (0, .ref v0), (1, .int v1), (3, .int t3)]) C dX3_takenAwayBy_62 rfl e38 (by decide) rfl ?_
            refine r_subk [2, 3, 0, 4] (lv' := [(0, .ref v0), (1, .int v1), (2, .int t37), (3, .int t3)]) rfl ?_
            exact J65 t37 t3 hf1
  refine r_subk [2, 3, 1, 0] (lv' := [(0, .ref v0), (1, .int v1), (2, .int (0 : Int32)), (3, .int (0 : Int32))]) rfl ?_
  exact L4 wN (0 : Int32) (0 : Int32) hl4
def f_X3_costs_b4 (h : aH) (v0 : Nat) (v1 : Int32) (v2 : Int32) : Option ((Int32 × Int32) ⊕ (Int32)) := (gR h 3 v0 0).bind fun t1 => (gI h 6 t1 4).bind fun t2 => if t2 ≤ v2 then some (.inr v1) else (gR h 3 v0 0).bind fun t3 => (gR h 6 t3 2).bind fun t4 => (lI h t4 v2).bind fun t5 => (some ((t5 &&& (1 : Int32)) + (1 : Int32))).bind fun t6 => (gR h 3 v0 4).bind fun t7 => (gR h 1 t7 7).bind fun t8 => (gR h 3 v0 0).bind fun t9 => (gR h 6 t9 1).bind fun t10 => (lI h t10 v2).bind fun t11 => (lI h t8 t11).bind fun t12 => (gR h 3 v0 4).bind fun t13 => (gR h 1 t13 7).bind fun t14 => (gR h 3 v0 0).bind fun t15 => (gR h 6 t15 2).bind fun t16 => (lI h t16 v2).bind fun t17 => (lI h t14 (t17 >>> ((1 : Int32) &&& 31))).bind fun t18 => (some (v1 + (t12 + (t6 * t18)))).bind fun t19 => (some (v2 + (1 : Int32))).bind fun t20 => some (.inl (t19, t20))
def f_X3_costs_l4 (h : aH) (v0 : Nat) (v1 : Int32) (v2 : Int32) : Option (Int32) := whileL wN (fun q : Int32 × Int32 => f_X3_costs_b4 h v0 q.1 q.2) (v1, v2)
def f_X3_costs (h : aH) (v0 : Nat) : Option (Int32) := (f_X3_costs_l4 h v0 (0 : Int32) (0 : Int32)).bind fun t21 => some t21
theorem s_X3_costs {h : aH} {v0 : Nat} {out : Int32} (hf0 : f_X3_costs h v0 = some out) : EV 0 yX3_costs cX3_costs 4 (some .int) h [.ref v0] (some (.int out)) h 0 0 := by
  refine EV.of (own := RX3) (lv0 := [(0, .ref v0)]) (by decide +kernel) rfl rfl (Nat.le_of_ble_eq_true rfl) ?_
  intro p l e s m args below meth c D cA B Hb C hin
  unfold f_X3_costs at hf0
  refine r_iconst (v := 0) C dX3_costs_0 (by decide) ?_
  refine r_istore_n (lv' := [(1, .int (0 : Int32)), (0, .ref v0)]) C dX3_costs_1 (by decide) rfl rfl ?_
  refine r_iconst (v := 0) C dX3_costs_2 (by decide) ?_
  refine r_istore_n (lv' := [(2, .int (0 : Int32)), (1, .int (0 : Int32)), (0, .ref v0)]) C dX3_costs_3 (by decide) rfl rfl ?_
  obtain ⟨y1, hl4, hf0⟩ := ob hf0
  have L4 : ∀ (n : Nat) (t2 : Int32) (t3 : Int32), whileL n (fun q : Int32 × Int32 => f_X3_costs_b4 h v0 q.1 q.2) (t2, t3) = some y1 → gW p l e (rmO 0 0 0) s m args below meth c (MQ below (eQ D cA B Hb h (some (.int out))) args s 0 0 (fun q => B ≤ q)) D cA B Hb 4 h 4 [(0, .ref v0), (1, .int t2), (2, .int t3)] [] 0 0 := by
    intro n
    induction n with
    | zero => intro t2 t3 hz; cases hz
    | succ n ih4 =>
      intro t2 t3 hz
      obtain ⟨x4, hf1, hk4⟩ := wl hz
      replace hf1 : f_X3_costs_b4 h v0 t2 t3 = some x4 := hf1
      unfold f_X3_costs_b4 at hf1
      refine r_iload_n C dX3_costs_4 rfl ?_
      refine r_aload_n C dX3_costs_5 rfl ?_
      obtain ⟨t4, e5, hf1⟩ := ob hf1
      refine r_getR C fk_X3_12 rfl dX3_costs_6 e5 ?_
      obtain ⟨t6, e7, hf1⟩ := ob hf1
      refine r_getI C fk_X3_42 rfl dX3_costs_9 e7 ?_
      refine r_icmp_ge (tgt := 77) C dX3_costs_12 (by decide) (fun c8 => ?_) (fun c8 => ?_)
      · rw [if_pos c8] at hf1
        obtain rfl := so hf1
        obtain rfl := so (show some t2 = some y1 from hk4)
        refine r_iload_n C dX3_costs_77 rfl ?_
        obtain rfl := so hf0
        exact r_iret C dX3_costs_78
      · rw [if_neg c8] at hf1
        refine r_aload_n C dX3_costs_15 rfl ?_
        obtain ⟨t9, e10, hf1⟩ := ob hf1
        refine r_getR C fk_X3_12 rfl dX3_costs_16 e10 ?_
        obtain ⟨t11, e12, hf1⟩ := ob hf1
        refine r_getR C fk_X3_87 rfl dX3_costs_19 e12 ?_
        refine r_iload_n C dX3_costs_22 rfl ?_
        obtain ⟨t13, e14, hf1⟩ := ob hf1
        refine r_ldI C dX3_costs_23 e14 ?_
        refine r_iconst (v := 1) C dX3_costs_24 (by decide) ?_
        refine r_iand C dX3_costs_25 ?_
        refine r_iconst (v := 1) C dX3_costs_26 (by decide) ?_
        refine r_iadd C dX3_costs_27 ?_
        obtain ⟨t15, e16, hf1⟩ := ob hf1
        refine r_istore_n (lv' := [(3, .int t15), (0, .ref v0), (1, .int t2), (2, .int t3)]) C dX3_costs_28 (by decide) e16 rfl ?_
        refine r_iload_n C dX3_costs_29 rfl ?_
        refine r_aload_n C dX3_costs_30 rfl ?_
        obtain ⟨t17, e18, hf1⟩ := ob hf1
        refine r_getR C fk_X3_35 rfl dX3_costs_31 e18 ?_
        obtain ⟨t19, e20, hf1⟩ := ob hf1
        refine r_getR C fk_X3_116 rfl dX3_costs_34 e20 ?_
        refine r_aload_n C dX3_costs_37 rfl ?_
        obtain ⟨t21, e22, hf1⟩ := ob hf1
        refine r_getR C fk_X3_12 rfl dX3_costs_38 e22 ?_
        obtain ⟨t23, e24, hf1⟩ := ob hf1
        refine r_getR C fk_X3_70 rfl dX3_costs_41 e24 ?_
        refine r_iload_n C dX3_costs_44 rfl ?_
        obtain ⟨t25, e26, hf1⟩ := ob hf1
        refine r_ldI C dX3_costs_45 e26 ?_
        obtain ⟨t27, e28, hf1⟩ := ob hf1
        refine r_ldI C dX3_costs_46 e28 ?_
        refine r_iload_n C dX3_costs_47 rfl ?_
        refine r_aload_n C dX3_costs_48 rfl ?_
        obtain ⟨t29, e30, hf1⟩ := ob hf1
        refine r_getR C fk_X3_35 rfl dX3_costs_49 e30 ?_
        obtain ⟨t31, e32, hf1⟩ := ob hf1
        refine r_getR C fk_X3_116 rfl dX3_costs_52 e32 ?_
        refine r_aload_n C dX3_costs_55 rfl ?_
        obtain ⟨t33, e34, hf1⟩ := ob hf1
        refine r_getR C fk_X3_12 rfl dX3_costs_56 e34 ?_
        obtain ⟨t35, e36, hf1⟩ := ob hf1
        refine r_getR C fk_X3_87 rfl dX3_costs_59 e36 ?_
        refine r_iload_n C dX3_costs_62 rfl ?_
        obtain ⟨t37, e38, hf1⟩ := ob hf1
        refine r_ldI C dX3_costs_63 e38 ?_
        refine r_iconst (v := 1) C dX3_costs_64 (by decide) ?_
        refine r_ishr C dX3_costs_65 ?_
        obtain ⟨t39, e40, hf1⟩ := ob hf1
        refine r_ldI C dX3_costs_66 e40 ?_
        refine r_imul C dX3_costs_67 ?_
        refine r_iadd C dX3_costs_68 ?_
        refine r_iadd C dX3_costs_69 ?_
        obtain ⟨t41, e42, hf1⟩ := ob hf1
        refine r_istore_n (lv' := [(1, .int t41), (3, .int t15), (0, .ref v0), (2, .int t3)]) C dX3_costs_70 (by decide) e42 rfl ?_
        obtain ⟨t43, e44, hf1⟩ := ob hf1
        refine r_iinc (lv' := [(2, .int t43), (1, .int t41), (3, .int t15), (0, .ref v0)]) C dX3_costs_71 rfl e44 (by decide) rfl ?_
        refine r_goto (tgt := 4) C dX3_costs_74 (by decide) ?_
        obtain rfl := so hf1
        refine r_subk [3, 1, 0] (lv' := [(0, .ref v0), (1, .int t41), (2, .int t43)]) rfl ?_
        exact ih4 t41 t43 hk4
  refine r_subk [2, 1, 0] (lv' := [(0, .ref v0), (1, .int (0 : Int32)), (2, .int (0 : Int32))]) rfl ?_
  exact L4 wN (0 : Int32) (0 : Int32) hl4
def f_X3_mostLeftBehind_j105 (h : aH) (v0 : Nat) (v1 : Int32) (v2 : Int32) (v3 : Int32) (v4 : Int32) (v5 : Int32) (v6 : Int32) (v7 : Int32) : Option ((Int32 × Int32 × Int32 × aH) ⊕ (aH)) := (some (v5 >>> ((5 : Int32) &&& 31))).bind fun t11 => (some (v7 + (1 : Int32))).bind fun t12 => some (.inl (t11, v6, t12, h))
def f_X3_mostLeftBehind_b54 (v0 : Nat) (v1 : Int32) (v2 : Int32) (v3 : Int32) (v4 : Int32) (v5 : Int32) (v6 : Int32) (v7 : Int32) (h : aH) : Option ((Int32 × Int32 × Int32 × aH) ⊕ (aH)) := if (4 : Int32) ≤ v7 then some (.inr h) else (some (v5 &&& (31 : Int32))).bind fun t13 => if (((v4 >>> (v7 &&& 31)) &&& (1 : Int32)) &&& ((v6 >>> (t13 &&& 31)) ^^^ (-1 : Int32))) = 0 then f_X3_mostLeftBehind_j105 h v0 v1 v2 v3 v4 v5 v6 v7 else (some (v6 ||| ((1 : Int32) <<< (t13 &&& 31)))).bind fun t14 => (gR h 3 v0 3).bind fun t15 => (lI h t15 t13).bind fun t16 => (sI h t15 t13 (t16 + (1 : Int32))).bind fun h17 => f_X3_mostLeftBehind_j105 h17 v0 v1 v2 v3 v4 v5 t14 v7
def f_X3_mostLeftBehind_l54 (v0 : Nat) (v1 : Int32) (v2 : Int32) (v3 : Int32) (v4 : Int32) (v5 : Int32) (v6 : Int32) (v7 : Int32) (h : aH) : Option (aH) := whileL wN (fun q : Int32 × Int32 × Int32 × aH => f_X3_mostLeftBehind_b54 v0 v1 v2 v3 v4 q.1 q.2.1 q.2.2.1 q.2.2.2) (v5, v6, v7, h)
def f_X3_mostLeftBehind_b10 (v0 : Nat) (v1 : Int32) (v2 : Int32) (v3 : Int32) (h : aH) : Option ((Int32 × aH) ⊕ (aH)) := (gI h 3 v0 5).bind fun t3 => if t3 ≤ v3 then some (.inr h) else (gR h 3 v0 2).bind fun t4 => (lI h t4 v3).bind fun t5 => (ck h 3 v0).bind fun _ => (f_X3_kindsLeft h v0 v1 t5).bind fun t6 => (gR h 3 v0 4).bind fun t7 => (gR h 3 v0 2).bind fun t8 => (lI h t8 v3).bind fun t9 => (ck h 1 t7).bind fun _ => (f_X1_packedAnswers h t7 v1 v2 t9).bind fun t10 => (f_X3_mostLeftBehind_l54 v0 v1 v2 v3 t6 t10 (0 : Int32) (0 : Int32) h).bind fun h18 => (some (v3 + (1 : Int32))).bind fun t19 => some (.inl (t19, h18))
def f_X3_mostLeftBehind_l10 (v0 : Nat) (v1 : Int32) (v2 : Int32) (v3 : Int32) (h : aH) : Option (aH) := whileL wN (fun q : Int32 × aH => f_X3_mostLeftBehind_b10 v0 v1 v2 q.1 q.2) (v3, h)
def f_X3_mostLeftBehind_b128 (h : aH) (v0 : Nat) (v3 : Int32) (v4 : Int32) : Option ((Int32 × Int32) ⊕ (Int32)) := if (24 : Int32) ≤ v4 then some (.inr v3) else (gR h 3 v0 3).bind fun t21 => (lI h t21 v4).bind fun t22 => (some (mxI v3 t22)).bind fun t23 => (some (v4 + (1 : Int32))).bind fun t24 => some (.inl (t23, t24))
def f_X3_mostLeftBehind_l128 (h : aH) (v0 : Nat) (v3 : Int32) (v4 : Int32) : Option (Int32) := whileL wN (fun q : Int32 × Int32 => f_X3_mostLeftBehind_b128 h v0 q.1 q.2) (v3, v4)
def f_X3_mostLeftBehind (h : aH) (v0 : Nat) (v1 : Int32) (v2 : Int32) : Option (Int32 × aH) := (gR h 3 v0 3).bind fun t1 => (f_J7_fill_53178 h t1 (0 : Int32)).bind fun h2 => (f_X3_mostLeftBehind_l10 v0 v1 v2 (0 : Int32) h2).bind fun h20 => (f_X3_mostLeftBehind_l128 h20 v0 (0 : Int32) (0 : Int32)).bind fun t25 => some (t25, h20)
theorem s_X3_mostLeftBehind {h : aH} {v0 : Nat} {v1 : Int32} {v2 : Int32} {out : Int32 × aH} (hf0 : f_X3_mostLeftBehind h v0 v1 v2 = some out) : EV 1 yX3_mostLeftBehind cX3_mostLeftBehind 9 (some .int) h [.ref v0, .int v1, .int v2] (some (.int out.1)) out.2 0 0 := by
  refine EV.of (own := RX3) (lv0 := [(0, .ref v0), (1, .int v1), (2, .int v2)]) (by decide +kernel) rfl rfl (Nat.le_of_ble_eq_true rfl) ?_
  intro p l e s m args below meth c D cA B Hb C hin
  unfold f_X3_mostLeftBehind at hf0
  refine r_aload_n C dX3_mostLeftBehind_0 rfl ?_
  obtain ⟨t1, e2, hf0⟩ := ob hf0
  refine r_getR C fk_X3_25 rfl dX3_mostLeftBehind_1 e2 ?_
  refine r_iconst (v := 0) C dX3_mostLeftBehind_4 (by decide) ?_
  obtain ⟨h3, e4, hf0⟩ := ob hf0
  refine r_cS (rest := []) (st2 := []) C (s_J7_fill_53178 e4) mk_J7_fill_53178 sm_J7_fill_53178 lk_X3_119 rfl rfl rfl dX3_mostLeftBehind_5 (Nat.le_of_ble_eq_true rfl) ⟨Nat.le_of_ble_eq_true rfl, Nat.le_of_ble_eq_true rfl⟩ ⟨Nat.le_of_ble_eq_true rfl, Nat.le_of_ble_eq_true rfl⟩ ?_
  refine r_iconst (v := 0) C dX3_mostLeftBehind_8 (by decide) ?_
  refine r_istore_n (lv' := [(3, .int (0 : Int32)), (0, .ref v0), (1, .int v1), (2, .int v2)]) C dX3_mostLeftBehind_9 (by decide) rfl rfl ?_
  obtain ⟨y5, hl10, hf0⟩ := ob hf0
  have L10 : ∀ (n : Nat) (t6 : Int32) (h7 : aH), whileL n (fun q : Int32 × aH => f_X3_mostLeftBehind_b10 v0 v1 v2 q.1 q.2) (t6, h7) = some y5 → gW p l e (rmO 1 0 0) s m args below meth c (MQ below (eQ D cA B Hb out.2 (some (.int out.1))) args s 0 0 (fun q => B ≤ q)) D cA B Hb 9 h7 10 [(0, .ref v0), (1, .int v1), (2, .int v2), (3, .int t6)] [] 0 0 := by
    intro n
    induction n with
    | zero => intro t6 h7 hz; cases hz
    | succ n ih10 =>
      intro t6 h7 hz
      obtain ⟨x10, hf1, hk10⟩ := wl hz
      replace hf1 : f_X3_mostLeftBehind_b10 v0 v1 v2 t6 h7 = some x10 := hf1
      unfold f_X3_mostLeftBehind_b10 at hf1
      refine r_iload_n C dX3_mostLeftBehind_10 rfl ?_
      refine r_aload_n C dX3_mostLeftBehind_11 rfl ?_
      obtain ⟨t8, e9, hf1⟩ := ob hf1
      refine r_getI C fk_X3_28 rfl dX3_mostLeftBehind_12 e9 ?_
      refine r_icmp_ge (tgt := 123) C dX3_mostLeftBehind_15 (by decide) (fun c10 => ?_) (fun c10 => ?_)
      · rw [if_pos c10] at hf1
        obtain rfl := so hf1
        obtain rfl := so (show some h7 = some y5 from hk10)
        refine r_iconst (v := 0) C dX3_mostLeftBehind_123 (by decide) ?_
        refine r_istore_n (lv' := [(3, .int (0 : Int32)), (0, .ref v0), (1, .int v1), (2, .int v2)]) C dX3_mostLeftBehind_124 (by decide) rfl rfl ?_
        refine r_iconst (v := 0) C dX3_mostLeftBehind_125 (by decide) ?_
        refine r_istore (lv' := [(4, .int (0 : Int32)), (3, .int (0 : Int32)), (0, .ref v0), (1, .int v1), (2, .int v2)]) C dX3_mostLeftBehind_126 (by decide) rfl rfl ?_
        obtain ⟨y11, hl128, hf0⟩ := ob hf0
        have L128 : ∀ (n : Nat) (t12 : Int32) (t13 : Int32), whileL n (fun q : Int32 × Int32 => f_X3_mostLeftBehind_b128 h7 v0 q.1 q.2) (t12, t13) = some y11 → gW p l e (rmO 1 0 0) s m args below meth c (MQ below (eQ D cA B Hb out.2 (some (.int out.1))) args s 0 0 (fun q => B ≤ q)) D cA B Hb 9 h7 128 [(0, .ref v0), (3, .int t12), (4, .int t13)] [] 0 0 := by
          intro n
          induction n with
          | zero => intro t12 t13 hz; cases hz
          | succ n ih128 =>
            intro t12 t13 hz
            obtain ⟨x128, hf1, hk128⟩ := wl hz
            replace hf1 : f_X3_mostLeftBehind_b128 h7 v0 t12 t13 = some x128 := hf1
            unfold f_X3_mostLeftBehind_b128 at hf1
            refine r_iload C dX3_mostLeftBehind_128 rfl ?_
            refine r_bipush (v := 24) C dX3_mostLeftBehind_130 (by decide) ?_
            refine r_icmp_ge (tgt := 153) C dX3_mostLeftBehind_132 (by decide) (fun c14 => ?_) (fun c14 => ?_)
            · rw [if_pos c14] at hf1
              obtain rfl := so hf1
              obtain rfl := so (show some t12 = some y11 from hk128)
              refine r_iload_n C dX3_mostLeftBehind_153 rfl ?_
              obtain rfl := so hf0
              exact r_iret C dX3_mostLeftBehind_154
            · rw [if_neg c14] at hf1
              refine r_iload_n C dX3_mostLeftBehind_135 rfl ?_
              refine r_aload_n C dX3_mostLeftBehind_136 rfl ?_
              obtain ⟨t15, e16, hf1⟩ := ob hf1
              refine r_getR C fk_X3_25 rfl dX3_mostLeftBehind_137 e16 ?_
              refine r_iload C dX3_mostLeftBehind_140 rfl ?_
              obtain ⟨t17, e18, hf1⟩ := ob hf1
              refine r_ldI C dX3_mostLeftBehind_142 e18 ?_
              refine r_mmax C lk_X3_125 dX3_mostLeftBehind_143 ⟨Nat.le_of_ble_eq_true rfl, Nat.le_of_ble_eq_true rfl⟩ (Nat.le_of_ble_eq_true rfl) ⟨Nat.le_of_ble_eq_true rfl, Nat.le_of_ble_eq_true rfl⟩ ?_
              obtain ⟨t19, e20, hf1⟩ := ob hf1
              refine r_istore_n (lv' := [(3, .int t19), (0, .ref v0), (4, .int t13)]) C dX3_mostLeftBehind_146 (by decide) e20 rfl ?_
              obtain ⟨t21, e22, hf1⟩ := ob hf1
              refine r_iinc (lv' := [(4, .int t21), (3, .int t19), (0, .ref v0)]) C dX3_mostLeftBehind_147 rfl e22 (by decide) rfl ?_
              refine r_goto (tgt := 128) C dX3_mostLeftBehind_150 (by decide) ?_
              obtain rfl := so hf1
              refine r_subk [2, 1, 0] (lv' := [(0, .ref v0), (3, .int t19), (4, .int t21)]) rfl ?_
              exact ih128 t19 t21 hk128
        refine r_subk [2, 1, 0] (lv' := [(0, .ref v0), (3, .int (0 : Int32)), (4, .int (0 : Int32))]) rfl ?_
        exact L128 wN (0 : Int32) (0 : Int32) hl128
      · rw [if_neg c10] at hf1
        refine r_aload_n C dX3_mostLeftBehind_18 rfl ?_
        refine r_iload_n C dX3_mostLeftBehind_19 rfl ?_
        refine r_aload_n C dX3_mostLeftBehind_20 rfl ?_
        obtain ⟨t23, e24, hf1⟩ := ob hf1
        refine r_getR C fk_X3_22 rfl dX3_mostLeftBehind_21 e24 ?_
        refine r_iload_n C dX3_mostLeftBehind_24 rfl ?_
        obtain ⟨t25, e26, hf1⟩ := ob hf1
        refine r_ldI C dX3_mostLeftBehind_25 e26 ?_
        obtain ⟨u28, e27, hf1⟩ := ob hf1
        obtain ⟨t29, e30, hf1⟩ := ob hf1
        refine r_cV (ci := 3) (rest := []) (st2 := [.int t29]) C (s_X3_kindsLeft e30) mk_X3_kindsLeft rfl (ck_k e27) (by decide) im_X3_kindsLeft sl_X3_kindsLeft lk_X3_80 rfl rfl rfl dX3_mostLeftBehind_26 (Nat.le_of_ble_eq_true rfl) ⟨Nat.le_of_ble_eq_true rfl, Nat.le_of_ble_eq_true rfl⟩ ⟨Nat.le_of_ble_eq_true rfl, Nat.le_of_ble_eq_true rfl⟩ ?_
        refine r_istore (lv' := [(4, .int t29), (0, .ref v0), (1, .int v1), (2, .int v2), (3, .int t6)]) C dX3_mostLeftBehind_29 (by decide) rfl rfl ?_
        refine r_aload_n C dX3_mostLeftBehind_31 rfl ?_
        obtain ⟨t31, e32, hf1⟩ := ob hf1
        refine r_getR C fk_X3_35 rfl dX3_mostLeftBehind_32 e32 ?_
        refine r_iload_n C dX3_mostLeftBehind_35 rfl ?_
        refine r_iload_n C dX3_mostLeftBehind_36 rfl ?_
        refine r_aload_n C dX3_mostLeftBehind_37 rfl ?_
        obtain ⟨t33, e34, hf1⟩ := ob hf1
        refine r_getR C fk_X3_22 rfl dX3_mostLeftBehind_38 e34 ?_
        refine r_iload_n C dX3_mostLeftBehind_41 rfl ?_
        obtain ⟨t35, e36, hf1⟩ := ob hf1
        refine r_ldI C dX3_mostLeftBehind_42 e36 ?_
        obtain ⟨u38, e37, hf1⟩ := ob hf1
        obtain ⟨t39, e40, hf1⟩ := ob hf1
        refine r_cV (ci := 1) (rest := []) (st2 := [.int t39]) C (s_X1_packedAnswers e40) mk_X1_packedAnswers rfl (ck_k e37) (by decide) im_X1_packedAnswers sl_X1_packedAnswers lk_X3_83 rfl rfl rfl dX3_mostLeftBehind_43 (Nat.le_of_ble_eq_true rfl) ⟨Nat.le_of_ble_eq_true rfl, Nat.le_of_ble_eq_true rfl⟩ ⟨Nat.le_of_ble_eq_true rfl, Nat.le_of_ble_eq_true rfl⟩ ?_
        refine r_istore (lv' := [(5, .int t39), (4, .int t29), (0, .ref v0), (1, .int v1), (2, .int v2), (3, .int t6)]) C dX3_mostLeftBehind_46 (by decide) rfl rfl ?_
        refine r_iconst (v := 0) C dX3_mostLeftBehind_48 (by decide) ?_
        refine r_istore (lv' := [(6, .int (0 : Int32)), (5, .int t39), (4, .int t29), (0, .ref v0), (1, .int v1), (2, .int v2), (3, .int t6)]) C dX3_mostLeftBehind_49 (by decide) rfl rfl ?_
        refine r_iconst (v := 0) C dX3_mostLeftBehind_51 (by decide) ?_
        refine r_istore (lv' := [(7, .int (0 : Int32)), (6, .int (0 : Int32)), (5, .int t39), (4, .int t29), (0, .ref v0), (1, .int v1), (2, .int v2), (3, .int t6)]) C dX3_mostLeftBehind_52 (by decide) rfl rfl ?_
        obtain ⟨y41, hl54, hf1⟩ := ob hf1
        have L54 : ∀ (n : Nat) (t42 : Int32) (t43 : Int32) (t44 : Int32) (h45 : aH), whileL n (fun q : Int32 × Int32 × Int32 × aH => f_X3_mostLeftBehind_b54 v0 v1 v2 t6 t29 q.1 q.2.1 q.2.2.1 q.2.2.2) (t42, t43, t44, h45) = some y41 → gW p l e (rmO 1 0 0) s m args below meth c (MQ below (eQ D cA B Hb out.2 (some (.int out.1))) args s 0 0 (fun q => B ≤ q)) D cA B Hb 9 h45 54 [(0, .ref v0), (1, .int v1), (2, .int v2), (3, .int t6), (4, .int t29), (5, .int t42), (6, .int t43), (7, .int t44)] [] 0 0 := by
          intro n
          induction n with
          | zero => intro t42 t43 t44 h45 hz; cases hz
          | succ n ih54 =>
            intro t42 t43 t44 h45 hz
            obtain ⟨x54, hf2, hk54⟩ := wl hz
            replace hf2 : f_X3_mostLeftBehind_b54 v0 v1 v2 t6 t29 t42 t43 t44 h45 = some x54 := hf2
            unfold f_X3_mostLeftBehind_b54 at hf2
            have J105 : ∀ (h46 : aH) (t47 : Int32) (t48 : Int32) (t49 : Int32), f_X3_mostLeftBehind_j105 h46 v0 v1 v2 t6 t29 t47 t48 t49 = some x54 → gW p l e (rmO 1 0 0) s m args below meth c (MQ below (eQ D cA B Hb out.2 (some (.int out.1))) args s 0 0 (fun q => B ≤ q)) D cA B Hb 9 h46 105 [(0, .ref v0), (1, .int v1), (2, .int v2), (3, .int t6), (4, .int t29), (5, .int t47), (6, .int t48), (7, .int t49)] [] 0 0 := by
              intro h46 t47 t48 t49 hf2
              unfold f_X3_mostLeftBehind_j105 at hf2
              refine r_iload C dX3_mostLeftBehind_105 rfl ?_
              refine r_iconst (v := 5) C dX3_mostLeftBehind_107 (by decide) ?_
              refine r_ishr C dX3_mostLeftBehind_108 ?_
              obtain ⟨t50, e51, hf2⟩ := ob hf2
              refine r_istore (lv' := [(5, .int t50), (0, .ref v0), (1, .int v1), (2, .int v2), (3, .int t6), (4, .int t29), (6, .int t48), (7, .int t49)]) C dX3_mostLeftBehind_109 (by decide) e51 rfl ?_
              obtain ⟨t52, e53, hf2⟩ := ob hf2
              refine r_iinc (lv' := [(7, .int t52), (5, .int t50), (0, .ref v0), (1, .int v1), (2, .int v2), (3, .int t6), (4, .int t29), (6, .int t48)]) C dX3_mostLeftBehind_111 rfl e53 (by decide) rfl ?_
              refine r_goto (tgt := 54) C dX3_mostLeftBehind_114 (by decide) ?_
              obtain rfl := so hf2
              refine r_subk [2, 3, 4, 5, 6, 1, 7, 0] (lv' := [(0, .ref v0), (1, .int v1), (2, .int v2), (3, .int t6), (4, .int t29), (5, .int t50), (6, .int t48), (7, .int t52)]) rfl ?_
              exact ih54 t50 t48 t52 h46 hk54
            refine r_iload C dX3_mostLeftBehind_54 rfl ?_
            refine r_iconst (v := 4) C dX3_mostLeftBehind_56 (by decide) ?_
            refine r_icmp_ge (tgt := 117) C dX3_mostLeftBehind_57 (by decide) (fun c54 => ?_) (fun c54 => ?_)
            · rw [if_pos c54] at hf2
              obtain rfl := so hf2
              obtain rfl := so (show some h45 = some y41 from hk54)
              obtain ⟨t55, e56, hf1⟩ := ob hf1
              refine r_iinc (lv' := [(3, .int t55), (0, .ref v0), (1, .int v1), (2, .int v2), (4, .int t29), (5, .int t42), (6, .int t43), (7, .int t44)]) C dX3_mostLeftBehind_117 rfl e56 (by decide) rfl ?_
              refine r_goto (tgt := 10) C dX3_mostLeftBehind_120 (by decide) ?_
              obtain rfl := so hf1
              refine r_subk [1, 2, 3, 0] (lv' := [(0, .ref v0), (1, .int v1), (2, .int v2), (3, .int t55)]) rfl ?_
              exact ih10 t55 h45 hk10
            · rw [if_neg c54] at hf2
              refine r_iload C dX3_mostLeftBehind_60 rfl ?_
              refine r_bipush (v := 31) C dX3_mostLeftBehind_62 (by decide) ?_
              refine r_iand C dX3_mostLeftBehind_64 ?_
              obtain ⟨t57, e58, hf2⟩ := ob hf2
              refine r_istore (lv' := [(8, .int t57), (0, .ref v0), (1, .int v1), (2, .int v2), (3, .int t6), (4, .int t29), (5, .int t42), (6, .int t43), (7, .int t44)]) C dX3_mostLeftBehind_65 (by decide) e58 rfl ?_
              refine r_iload C dX3_mostLeftBehind_67 rfl ?_
              refine r_iload C dX3_mostLeftBehind_69 rfl ?_
              refine r_ishr C dX3_mostLeftBehind_71 ?_
              refine r_iconst (v := 1) C dX3_mostLeftBehind_72 (by decide) ?_
              refine r_iand C dX3_mostLeftBehind_73 ?_
              refine r_iload C dX3_mostLeftBehind_74 rfl ?_
              refine r_iload C dX3_mostLeftBehind_76 rfl ?_
              refine r_ishr C dX3_mostLeftBehind_78 ?_
              refine r_iconst (v := -1) C dX3_mostLeftBehind_79 (by decide) ?_
              refine r_ixor C dX3_mostLeftBehind_80 ?_
              refine r_iand C dX3_mostLeftBehind_81 ?_
              refine r_ifeq (tgt := 105) C dX3_mostLeftBehind_82 (by decide) (fun c59 => ?_) (fun c59 => ?_)
              · rw [if_pos c59] at hf2
                refine r_subk [1, 2, 3, 4, 5, 6, 7, 8] (lv' := [(0, .ref v0), (1, .int v1), (2, .int v2), (3, .int t6), (4, .int t29), (5, .int t42), (6, .int t43), (7, .int t44)]) rfl ?_
                exact J105 h45 t42 t43 t44 hf2
              · rw [if_neg c59] at hf2
                refine r_iload C dX3_mostLeftBehind_85 rfl ?_
                refine r_iconst (v := 1) C dX3_mostLeftBehind_87 (by decide) ?_
                refine r_iload C dX3_mostLeftBehind_88 rfl ?_
                refine r_ishl C dX3_mostLeftBehind_90 ?_
                refine r_ior C dX3_mostLeftBehind_91 ?_
                obtain ⟨t60, e61, hf2⟩ := ob hf2
                refine r_istore (lv' := [(6, .int t60), (8, .int t57), (0, .ref v0), (1, .int v1), (2, .int v2), (3, .int t6), (4, .int t29), (5, .int t42), (7, .int t44)]) C dX3_mostLeftBehind_92 (by decide) e61 rfl ?_
                refine r_aload_n C dX3_mostLeftBehind_94 rfl ?_
                obtain ⟨t62, e63, hf2⟩ := ob hf2
                refine r_getR C fk_X3_25 rfl dX3_mostLeftBehind_95 e63 ?_
                refine r_iload C dX3_mostLeftBehind_98 rfl ?_
                refine r_dup2 C dX3_mostLeftBehind_100 rfl rfl ?_
                obtain ⟨t64, e65, hf2⟩ := ob hf2
                refine r_ldI C dX3_mostLeftBehind_101 e65 ?_
                refine r_iconst (v := 1) C dX3_mostLeftBehind_102 (by decide) ?_
                refine r_iadd C dX3_mostLeftBehind_103 ?_
                obtain ⟨h66, e67, hf2⟩ := ob hf2
                refine r_stI C dX3_mostLeftBehind_104 e67 ?_
                refine r_subk [2, 3, 4, 5, 6, 7, 0, 8] (lv' := [(0, .ref v0), (1, .int v1), (2, .int v2), (3, .int t6), (4, .int t29), (5, .int t42), (6, .int t60), (7, .int t44)]) rfl ?_
                exact J105 h66 t42 t60 t44 hf2
        refine r_subk [4, 5, 6, 7, 3, 2, 1, 0] (lv' := [(0, .ref v0), (1, .int v1), (2, .int v2), (3, .int t6), (4, .int t29), (5, .int t39), (6, .int (0 : Int32)), (7, .int (0 : Int32))]) rfl ?_
        exact L54 wN t39 (0 : Int32) (0 : Int32) h7 hl54
  refine r_subk [1, 2, 3, 0] (lv' := [(0, .ref v0), (1, .int v1), (2, .int v2), (3, .int (0 : Int32))]) rfl ?_
  exact L10 wN (0 : Int32) h3 hl10
def f_X3_bestFor_j58 (h : aH) (v0 : Nat) (v1 : Int32) (v2 : Int32) (v3 : Int32) (v4 : Int32) : Option ((Int32 × Int32 × Int32 × aH) ⊕ (Int32 × aH)) := (some (v4 + (1 : Int32))).bind fun t1 => some (.inl (v2, v3, t1, h))
def f_X3_bestFor_b9 (v0 : Nat) (v1 : Int32) (v2 : Int32) (v3 : Int32) (v4 : Int32) (h : aH) : Option ((Int32 × Int32 × Int32 × aH) ⊕ (Int32 × aH)) := (gR h 3 v0 4).bind fun t2 => (gI h 1 t2 16).bind fun t3 => if t3 ≤ v4 then some (.inr (v2, h)) else (gI h 3 v0 5).bind fun t4 => if t4 ≤ 0 then some (.inr (v2, h)) else (ck h 3 v0).bind fun _ => (f_X3_wasPut h v0 v4).bind fun t5 => if t5 = 0 then (ck h 3 v0).bind fun _ => bd2 (f_X3_mostLeftBehind h v0 v1 v4) fun t6 h7 => if v3 ≤ t6 then f_X3_bestFor_j58 h7 v0 v1 v2 v3 v4 else f_X3_bestFor_j58 h7 v0 v1 v4 t6 v4 else f_X3_bestFor_j58 h v0 v1 v2 v3 v4
def f_X3_bestFor_l9 (v0 : Nat) (v1 : Int32) (v2 : Int32) (v3 : Int32) (v4 : Int32) (h : aH) : Option (Int32 × aH) := whileL wN (fun q : Int32 × Int32 × Int32 × aH => f_X3_bestFor_b9 v0 v1 q.1 q.2.1 q.2.2.1 q.2.2.2) (v2, v3, v4, h)
def f_X3_bestFor (h : aH) (v0 : Nat) (v1 : Int32) : Option (Int32 × aH) := bd2 (f_X3_bestFor_l9 v0 v1 (-1 : Int32) (257 : Int32) (0 : Int32) h) fun t8 h9 => some (t8, h9)
theorem s_X3_bestFor {h : aH} {v0 : Nat} {v1 : Int32} {out : Int32 × aH} (hf0 : f_X3_bestFor h v0 v1 = some out) : EV 2 yX3_bestFor cX3_bestFor 6 (some .int) h [.ref v0, .int v1] (some (.int out.1)) out.2 0 0 := by
  refine EV.of (own := RX3) (lv0 := [(0, .ref v0), (1, .int v1)]) (by decide +kernel) rfl rfl (Nat.le_of_ble_eq_true rfl) ?_
  intro p l e s m args below meth c D cA B Hb C hin
  unfold f_X3_bestFor at hf0
  refine r_iconst (v := -1) C dX3_bestFor_0 (by decide) ?_
  refine r_istore_n (lv' := [(2, .int (-1 : Int32)), (0, .ref v0), (1, .int v1)]) C dX3_bestFor_1 (by decide) rfl rfl ?_
  refine r_sipush (v := 257) C dX3_bestFor_2 (by decide) ?_
  refine r_istore_n (lv' := [(3, .int (257 : Int32)), (2, .int (-1 : Int32)), (0, .ref v0), (1, .int v1)]) C dX3_bestFor_5 (by decide) rfl rfl ?_
  refine r_iconst (v := 0) C dX3_bestFor_6 (by decide) ?_
  refine r_istore (lv' := [(4, .int (0 : Int32)), (3, .int (257 : Int32)), (2, .int (-1 : Int32)), (0, .ref v0), (1, .int v1)]) C dX3_bestFor_7 (by decide) rfl rfl ?_
  obtain ⟨y1, y2, hl9, hf0⟩ := ob2 hf0
  have L9 : ∀ (n : Nat) (t3 : Int32) (t4 : Int32) (t5 : Int32) (h6 : aH), whileL n (fun q : Int32 × Int32 × Int32 × aH => f_X3_bestFor_b9 v0 v1 q.1 q.2.1 q.2.2.1 q.2.2.2) (t3, t4, t5, h6) = some (y1, y2) → gW p l e (rmO 2 0 0) s m args below meth c (MQ below (eQ D cA B Hb out.2 (some (.int out.1))) args s 0 0 (fun q => B ≤ q)) D cA B Hb 6 h6 9 [(0, .ref v0), (1, .int v1), (2, .int t3), (3, .int t4), (4, .int t5)] [] 0 0 := by
    intro n
    induction n with
    | zero => intro t3 t4 t5 h6 hz; cases hz
    | succ n ih9 =>
      intro t3 t4 t5 h6 hz
      obtain ⟨x9, hf1, hk9⟩ := wl hz
      replace hf1 : f_X3_bestFor_b9 v0 v1 t3 t4 t5 h6 = some x9 := hf1
      unfold f_X3_bestFor_b9 at hf1
      have J58 : ∀ (h7 : aH) (t8 : Int32) (t9 : Int32) (t10 : Int32), f_X3_bestFor_j58 h7 v0 v1 t8 t9 t10 = some x9 → gW p l e (rmO 2 0 0) s m args below meth c (MQ below (eQ D cA B Hb out.2 (some (.int out.1))) args s 0 0 (fun q => B ≤ q)) D cA B Hb 6 h7 58 [(0, .ref v0), (1, .int v1), (2, .int t8), (3, .int t9), (4, .int t10)] [] 0 0 := by
        intro h7 t8 t9 t10 hf1
        unfold f_X3_bestFor_j58 at hf1
        obtain ⟨t11, e12, hf1⟩ := ob hf1
        refine r_iinc (lv' := [(4, .int t11), (0, .ref v0), (1, .int v1), (2, .int t8), (3, .int t9)]) C dX3_bestFor_58 rfl e12 (by decide) rfl ?_
        refine r_goto (tgt := 9) C dX3_bestFor_61 (by decide) ?_
        obtain rfl := so hf1
        refine r_subk [1, 2, 3, 4, 0] (lv' := [(0, .ref v0), (1, .int v1), (2, .int t8), (3, .int t9), (4, .int t11)]) rfl ?_
        exact ih9 t8 t9 t11 h7 hk9
      refine r_iload C dX3_bestFor_9 rfl ?_
      refine r_aload_n C dX3_bestFor_11 rfl ?_
      obtain ⟨t13, e14, hf1⟩ := ob hf1
      refine r_getR C fk_X3_35 rfl dX3_bestFor_12 e14 ?_
      obtain ⟨t15, e16, hf1⟩ := ob hf1
      refine r_getI C fk_X3_130 rfl dX3_bestFor_15 e16 ?_
      refine r_icmp_ge (tgt := 64) C dX3_bestFor_18 (by decide) (fun c17 => ?_) (fun c17 => ?_)
      · rw [if_pos c17] at hf1
        obtain rfl := so hf1
        obtain ⟨rfl, rfl⟩ := so2 (show some (t3, h6) = some (y1, y2) from hk9)
        refine r_iload_n C dX3_bestFor_64 rfl ?_
        obtain rfl := so hf0
        exact r_iret C dX3_bestFor_65
      · rw [if_neg c17] at hf1
        refine r_aload_n C dX3_bestFor_21 rfl ?_
        obtain ⟨t18, e19, hf1⟩ := ob hf1
        refine r_getI C fk_X3_28 rfl dX3_bestFor_22 e19 ?_
        refine r_ifle (tgt := 64) C dX3_bestFor_25 (by decide) (fun c20 => ?_) (fun c20 => ?_)
        · rw [if_pos c20] at hf1
          obtain rfl := so hf1
          obtain ⟨rfl, rfl⟩ := so2 (show some (t3, h6) = some (y1, y2) from hk9)
          refine r_iload_n C dX3_bestFor_64 rfl ?_
          obtain rfl := so hf0
          exact r_iret C dX3_bestFor_65
        · rw [if_neg c20] at hf1
          refine r_aload_n C dX3_bestFor_28 rfl ?_
          refine r_iload C dX3_bestFor_29 rfl ?_
          obtain ⟨u22, e21, hf1⟩ := ob hf1
          obtain ⟨t23, e24, hf1⟩ := ob hf1
          refine r_cV (ci := 3) (rest := []) (st2 := [.int t23]) C (s_X3_wasPut e24) mk_X3_wasPut rfl (ck_k e21) (by decide) im_X3_wasPut sl_X3_wasPut lk_X3_133 rfl rfl rfl dX3_bestFor_31 (Nat.le_of_ble_eq_true rfl) ⟨Nat.le_of_ble_eq_true rfl, Nat.le_of_ble_eq_true rfl⟩ ⟨Nat.le_of_ble_eq_true rfl, Nat.le_of_ble_eq_true rfl⟩ ?_
          refine r_ifne (tgt := 58) C dX3_bestFor_34 (by decide) (fun c25 => ?_) (fun c25 => ?_)
          · rw [if_neg c25] at hf1
            exact J58 h6 t3 t4 t5 hf1
          · rw [if_pos c25] at hf1
            refine r_aload_n C dX3_bestFor_37 rfl ?_
            refine r_iload_n C dX3_bestFor_38 rfl ?_
            refine r_iload C dX3_bestFor_39 rfl ?_
            obtain ⟨u27, e26, hf1⟩ := ob hf1
            obtain ⟨t28, h29, e30, hf1⟩ := ob2 hf1
            refine r_cV (ci := 3) (rest := []) (st2 := [.int t28]) C (s_X3_mostLeftBehind e30) mk_X3_mostLeftBehind rfl (ck_k e26) (by decide) im_X3_mostLeftBehind sl_X3_mostLeftBehind lk_X3_136 rfl rfl rfl dX3_bestFor_41 (Nat.le_of_ble_eq_true rfl) ⟨Nat.le_of_ble_eq_true rfl, Nat.le_of_ble_eq_true rfl⟩ ⟨Nat.le_of_ble_eq_true rfl, Nat.le_of_ble_eq_true rfl⟩ ?_
            refine r_istore (lv' := [(5, .int t28), (0, .ref v0), (1, .int v1), (2, .int t3), (3, .int t4), (4, .int t5)]) C dX3_bestFor_44 (by decide) rfl rfl ?_
            refine r_iload C dX3_bestFor_46 rfl ?_
            refine r_iload_n C dX3_bestFor_48 rfl ?_
            refine r_icmp_ge (tgt := 58) C dX3_bestFor_49 (by decide) (fun c31 => ?_) (fun c31 => ?_)
            · rw [if_pos c31] at hf1
              refine r_subk [1, 2, 3, 4, 5] (lv' := [(0, .ref v0), (1, .int v1), (2, .int t3), (3, .int t4), (4, .int t5)]) rfl ?_
              exact J58 h29 t3 t4 t5 hf1
            · rw [if_neg c31] at hf1
              refine r_iload C dX3_bestFor_52 rfl ?_
              refine r_istore_n (lv' := [(3, .int t28), (5, .int t28), (0, .ref v0), (1, .int v1), (2, .int t3), (4, .int t5)]) C dX3_bestFor_54 (by decide) rfl rfl ?_
              refine r_iload C dX3_bestFor_55 rfl ?_
              refine r_istore_n (lv' := [(2, .int t5), (3, .int t28), (5, .int t28), (0, .ref v0), (1, .int v1), (4, .int t5)]) C dX3_bestFor_57 (by decide) rfl rfl ?_
              refine r_subk [3, 4, 0, 1, 5] (lv' := [(0, .ref v0), (1, .int v1), (2, .int t5), (3, .int t28), (4, .int t5)]) rfl ?_
              exact J58 h29 t5 t28 t5 hf1
  refine r_subk [3, 4, 2, 1, 0] (lv' := [(0, .ref v0), (1, .int v1), (2, .int (-1 : Int32)), (3, .int (257 : Int32)), (4, .int (0 : Int32))]) rfl ?_
  exact L9 wN (-1 : Int32) (257 : Int32) (0 : Int32) h hl9
def f_X3_leftIfHonest_j45 (h : aH) (v0 : Nat) (v1 : Int32) (v2 : Int32) : Option ((Int32 × Int32) ⊕ (Int32)) := (some (v2 + (1 : Int32))).bind fun t1 => some (.inl (v1, t1))
def f_X3_leftIfHonest_b4 (h : aH) (v0 : Nat) (v1 : Int32) (v2 : Int32) : Option ((Int32 × Int32) ⊕ (Int32)) := (gR h 3 v0 4).bind fun t2 => (gI h 1 t2 14).bind fun t3 => if t3 ≤ v2 then some (.inr v1) else (gR h 3 v0 4).bind fun t4 => (ck h 1 t4).bind fun _ => (f_X1_canBe h t4 v2).bind fun t5 => if t5 = 0 then f_X3_leftIfHonest_j45 h v0 v1 v2 else (gR h 3 v0 1).bind fun t6 => (lI h t6 v2).bind fun t7 => if (t7 &&& (4369 : Int32)) = (4369 : Int32) then (some (v1 + (1 : Int32))).bind fun t8 => f_X3_leftIfHonest_j45 h v0 t8 v2 else f_X3_leftIfHonest_j45 h v0 v1 v2
def f_X3_leftIfHonest_l4 (h : aH) (v0 : Nat) (v1 : Int32) (v2 : Int32) : Option (Int32) := whileL wN (fun q : Int32 × Int32 => f_X3_leftIfHonest_b4 h v0 q.1 q.2) (v1, v2)
def f_X3_leftIfHonest (h : aH) (v0 : Nat) : Option (Int32) := (f_X3_leftIfHonest_l4 h v0 (0 : Int32) (0 : Int32)).bind fun t9 => some t9
theorem s_X3_leftIfHonest {h : aH} {v0 : Nat} {out : Int32} (hf0 : f_X3_leftIfHonest h v0 = some out) : EV 1 yX3_leftIfHonest cX3_leftIfHonest 3 (some .int) h [.ref v0] (some (.int out)) h 0 0 := by
  refine EV.of (own := RX3) (lv0 := [(0, .ref v0)]) (by decide +kernel) rfl rfl (Nat.le_of_ble_eq_true rfl) ?_
  intro p l e s m args below meth c D cA B Hb C hin
  unfold f_X3_leftIfHonest at hf0
  refine r_iconst (v := 0) C dX3_leftIfHonest_0 (by decide) ?_
  refine r_istore_n (lv' := [(1, .int (0 : Int32)), (0, .ref v0)]) C dX3_leftIfHonest_1 (by decide) rfl rfl ?_
  refine r_iconst (v := 0) C dX3_leftIfHonest_2 (by decide) ?_
  refine r_istore_n (lv' := [(2, .int (0 : Int32)), (1, .int (0 : Int32)), (0, .ref v0)]) C dX3_leftIfHonest_3 (by decide) rfl rfl ?_
  obtain ⟨y1, hl4, hf0⟩ := ob hf0
  have L4 : ∀ (n : Nat) (t2 : Int32) (t3 : Int32), whileL n (fun q : Int32 × Int32 => f_X3_leftIfHonest_b4 h v0 q.1 q.2) (t2, t3) = some y1 → gW p l e (rmO 1 0 0) s m args below meth c (MQ below (eQ D cA B Hb h (some (.int out))) args s 0 0 (fun q => B ≤ q)) D cA B Hb 3 h 4 [(0, .ref v0), (1, .int t2), (2, .int t3)] [] 0 0 := by
    intro n
    induction n with
    | zero => intro t2 t3 hz; cases hz
    | succ n ih4 =>
      intro t2 t3 hz
      obtain ⟨x4, hf1, hk4⟩ := wl hz
      replace hf1 : f_X3_leftIfHonest_b4 h v0 t2 t3 = some x4 := hf1
      unfold f_X3_leftIfHonest_b4 at hf1
      have J45 : ∀ (t4 : Int32) (t5 : Int32), f_X3_leftIfHonest_j45 h v0 t4 t5 = some x4 → gW p l e (rmO 1 0 0) s m args below meth c (MQ below (eQ D cA B Hb h (some (.int out))) args s 0 0 (fun q => B ≤ q)) D cA B Hb 3 h 45 [(0, .ref v0), (1, .int t4), (2, .int t5)] [] 0 0 := by
        intro t4 t5 hf1
        unfold f_X3_leftIfHonest_j45 at hf1
        obtain ⟨t6, e7, hf1⟩ := ob hf1
        refine r_iinc (lv' := [(2, .int t6), (0, .ref v0), (1, .int t4)]) C dX3_leftIfHonest_45 rfl e7 (by decide) rfl ?_
        refine r_goto (tgt := 4) C dX3_leftIfHonest_48 (by decide) ?_
        obtain rfl := so hf1
        refine r_subk [1, 2, 0] (lv' := [(0, .ref v0), (1, .int t4), (2, .int t6)]) rfl ?_
        exact ih4 t4 t6 hk4
      refine r_iload_n C dX3_leftIfHonest_4 rfl ?_
      refine r_aload_n C dX3_leftIfHonest_5 rfl ?_
      obtain ⟨t8, e9, hf1⟩ := ob hf1
      refine r_getR C fk_X3_35 rfl dX3_leftIfHonest_6 e9 ?_
      obtain ⟨t10, e11, hf1⟩ := ob hf1
      refine r_getI C fk_X3_60 rfl dX3_leftIfHonest_9 e11 ?_
      refine r_icmp_ge (tgt := 51) C dX3_leftIfHonest_12 (by decide) (fun c12 => ?_) (fun c12 => ?_)
      · rw [if_pos c12] at hf1
        obtain rfl := so hf1
        obtain rfl := so (show some t2 = some y1 from hk4)
        refine r_iload_n C dX3_leftIfHonest_51 rfl ?_
        obtain rfl := so hf0
        exact r_iret C dX3_leftIfHonest_52
      · rw [if_neg c12] at hf1
        refine r_aload_n C dX3_leftIfHonest_15 rfl ?_
        obtain ⟨t13, e14, hf1⟩ := ob hf1
        refine r_getR C fk_X3_35 rfl dX3_leftIfHonest_16 e14 ?_
        refine r_iload_n C dX3_leftIfHonest_19 rfl ?_
        obtain ⟨u16, e15, hf1⟩ := ob hf1
        obtain ⟨t17, e18, hf1⟩ := ob hf1
        refine r_cV (ci := 1) (rest := []) (st2 := [.int t17]) C (s_X1_canBe e18) mk_X1_canBe rfl (ck_k e15) (by decide) im_X1_canBe sl_X1_canBe lk_X3_66 rfl rfl rfl dX3_leftIfHonest_20 (Nat.le_of_ble_eq_true rfl) ⟨Nat.le_of_ble_eq_true rfl, Nat.le_of_ble_eq_true rfl⟩ ⟨Nat.le_of_ble_eq_true rfl, Nat.le_of_ble_eq_true rfl⟩ ?_
        refine r_ifeq (tgt := 45) C dX3_leftIfHonest_23 (by decide) (fun c19 => ?_) (fun c19 => ?_)
        · rw [if_pos c19] at hf1
          exact J45 t2 t3 hf1
        · rw [if_neg c19] at hf1
          refine r_aload_n C dX3_leftIfHonest_26 rfl ?_
          obtain ⟨t20, e21, hf1⟩ := ob hf1
          refine r_getR C fk_X3_18 rfl dX3_leftIfHonest_27 e21 ?_
          refine r_iload_n C dX3_leftIfHonest_30 rfl ?_
          obtain ⟨t22, e23, hf1⟩ := ob hf1
          refine r_ldI C dX3_leftIfHonest_31 e23 ?_
          refine r_sipush (v := 4369) C dX3_leftIfHonest_32 (by decide) ?_
          refine r_iand C dX3_leftIfHonest_35 ?_
          refine r_sipush (v := 4369) C dX3_leftIfHonest_36 (by decide) ?_
          refine r_icmp_ne (tgt := 45) C dX3_leftIfHonest_39 (by decide) (fun c24 => ?_) (fun c24 => ?_)
          · rw [if_neg c24] at hf1
            exact J45 t2 t3 hf1
          · rw [if_pos c24] at hf1
            obtain ⟨t25, e26, hf1⟩ := ob hf1
            refine r_iinc (lv' := [(1, .int t25), (0, .ref v0), (2, .int t3)]) C dX3_leftIfHonest_42 rfl e26 (by decide) rfl ?_
            refine r_subk [1, 0, 2] (lv' := [(0, .ref v0), (1, .int t25), (2, .int t3)]) rfl ?_
            exact J45 t25 t3 hf1
  refine r_subk [2, 1, 0] (lv' := [(0, .ref v0), (1, .int (0 : Int32)), (2, .int (0 : Int32))]) rfl ?_
  exact L4 wN (0 : Int32) (0 : Int32) hl4
def f_X3_firstDoubt_b2 (h : aH) (v0 : Nat) (v1 : Int32) (v2 : Int32) : Option ((Int32) ⊕ ((Int32) ⊕ (Unit))) := (gR h 3 v0 0).bind fun t1 => (gI h 6 t1 4).bind fun t2 => if t2 ≤ v2 then some (.inr (.inr ())) else (ck h 3 v0).bind fun _ => (f_X3_agreeing h v0 v2 v1).bind fun t3 => if (t3 &&& (4369 : Int32)) = (4369 : Int32) then (some (v2 + (1 : Int32))).bind fun t4 => some (.inl t4) else some (.inr (.inl v2))
def f_X3_firstDoubt_l2 (h : aH) (v0 : Nat) (v1 : Int32) (v2 : Int32) : Option ((Int32) ⊕ (Unit)) := whileL wN (fun q : Int32 => f_X3_firstDoubt_b2 h v0 v1 q) v2
def f_X3_firstDoubt (h : aH) (v0 : Nat) (v1 : Int32) : Option (Int32) := (f_X3_firstDoubt_l2 h v0 v1 (0 : Int32)).bind fun e => match e with | .inl t5 => some t5 | .inr _ => some (-1 : Int32)
theorem s_X3_firstDoubt {h : aH} {v0 : Nat} {v1 : Int32} {out : Int32} (hf0 : f_X3_firstDoubt h v0 v1 = some out) : EV 2 yX3_firstDoubt cX3_firstDoubt 3 (some .int) h [.ref v0, .int v1] (some (.int out)) h 0 0 := by
  refine EV.of (own := RX3) (lv0 := [(0, .ref v0), (1, .int v1)]) (by decide +kernel) rfl rfl (Nat.le_of_ble_eq_true rfl) ?_
  intro p l e s m args below meth c D cA B Hb C hin
  unfold f_X3_firstDoubt at hf0
  refine r_iconst (v := 0) C dX3_firstDoubt_0 (by decide) ?_
  refine r_istore_n (lv' := [(2, .int (0 : Int32)), (0, .ref v0), (1, .int v1)]) C dX3_firstDoubt_1 (by decide) rfl rfl ?_
  obtain ⟨y1, hl2, hf0⟩ := ob hf0
  have L2 : ∀ (n : Nat) (t2 : Int32), whileL n (fun q : Int32 => f_X3_firstDoubt_b2 h v0 v1 q) t2 = some y1 → gW p l e (rmO 2 0 0) s m args below meth c (MQ below (eQ D cA B Hb h (some (.int out))) args s 0 0 (fun q => B ≤ q)) D cA B Hb 3 h 2 [(0, .ref v0), (1, .int v1), (2, .int t2)] [] 0 0 := by
    intro n
    induction n with
    | zero => intro t2 hz; cases hz
    | succ n ih2 =>
      intro t2 hz
      obtain ⟨x2, hf1, hk2⟩ := wl hz
      replace hf1 : f_X3_firstDoubt_b2 h v0 v1 t2 = some x2 := hf1
      unfold f_X3_firstDoubt_b2 at hf1
      refine r_iload_n C dX3_firstDoubt_2 rfl ?_
      refine r_aload_n C dX3_firstDoubt_3 rfl ?_
      obtain ⟨t3, e4, hf1⟩ := ob hf1
      refine r_getR C fk_X3_12 rfl dX3_firstDoubt_4 e4 ?_
      obtain ⟨t5, e6, hf1⟩ := ob hf1
      refine r_getI C fk_X3_42 rfl dX3_firstDoubt_7 e6 ?_
      refine r_icmp_ge (tgt := 37) C dX3_firstDoubt_10 (by decide) (fun c7 => ?_) (fun c7 => ?_)
      · rw [if_pos c7] at hf1
        obtain rfl := so hf1
        obtain rfl := so (show some (.inr () : (Int32) ⊕ (Unit)) = some y1 from hk2)
        dsimp only at hf0
        refine r_iconst (v := -1) C dX3_firstDoubt_37 (by decide) ?_
        obtain rfl := so hf0
        exact r_iret C dX3_firstDoubt_38
      · rw [if_neg c7] at hf1
        refine r_aload_n C dX3_firstDoubt_13 rfl ?_
        refine r_iload_n C dX3_firstDoubt_14 rfl ?_
        refine r_iload_n C dX3_firstDoubt_15 rfl ?_
        obtain ⟨u9, e8, hf1⟩ := ob hf1
        obtain ⟨t10, e11, hf1⟩ := ob hf1
        refine r_cV (ci := 3) (rest := []) (st2 := [.int t10]) C (s_X3_agreeing e11) mk_X3_agreeing rfl (ck_k e8) (by decide) im_X3_agreeing sl_X3_agreeing lk_X3_73 rfl rfl rfl dX3_firstDoubt_16 (Nat.le_of_ble_eq_true rfl) ⟨Nat.le_of_ble_eq_true rfl, Nat.le_of_ble_eq_true rfl⟩ ⟨Nat.le_of_ble_eq_true rfl, Nat.le_of_ble_eq_true rfl⟩ ?_
        refine r_sipush (v := 4369) C dX3_firstDoubt_19 (by decide) ?_
        refine r_iand C dX3_firstDoubt_22 ?_
        refine r_sipush (v := 4369) C dX3_firstDoubt_23 (by decide) ?_
        refine r_icmp_eq (tgt := 31) C dX3_firstDoubt_26 (by decide) (fun c12 => ?_) (fun c12 => ?_)
        · rw [if_pos c12] at hf1
          obtain ⟨t13, e14, hf1⟩ := ob hf1
          refine r_iinc (lv' := [(2, .int t13), (0, .ref v0), (1, .int v1)]) C dX3_firstDoubt_31 rfl e14 (by decide) rfl ?_
          refine r_goto (tgt := 2) C dX3_firstDoubt_34 (by decide) ?_
          obtain rfl := so hf1
          refine r_subk [1, 2, 0] (lv' := [(0, .ref v0), (1, .int v1), (2, .int t13)]) rfl ?_
          exact ih2 t13 hk2
        · rw [if_neg c12] at hf1
          obtain rfl := so hf1
          obtain rfl := so (show some (.inl t2 : (Int32) ⊕ (Unit)) = some y1 from hk2)
          dsimp only at hf0
          refine r_iload_n C dX3_firstDoubt_29 rfl ?_
          obtain rfl := so hf0
          exact r_iret C dX3_firstDoubt_30
  refine r_subk [1, 2, 0] (lv' := [(0, .ref v0), (1, .int v1), (2, .int (0 : Int32))]) rfl ?_
  exact L2 wN (0 : Int32) hl2
def f_X3_firstClash_j57 (h : aH) (v0 : Nat) (v1 : Int32) (v2 : Int32) : Option ((Int32 × Int32) ⊕ ((Unit) ⊕ (Int32))) := (some (v2 + (1 : Int32))).bind fun t3 => some (.inl (v1, t3))
def f_X3_firstClash_b16 (h : aH) (v0 : Nat) (v1 : Int32) (v2 : Int32) : Option ((Int32 × Int32) ⊕ ((Unit) ⊕ (Int32))) := (gR h 3 v0 4).bind fun t4 => (gI h 1 t4 14).bind fun t5 => if t5 ≤ v2 then some (.inr (.inr v1)) else (gR h 3 v0 4).bind fun t6 => (ck h 1 t6).bind fun _ => (f_X1_canBe h t6 v2).bind fun t7 => if t7 = 0 then f_X3_firstClash_j57 h v0 v1 v2 else (ck h 3 v0).bind fun _ => (f_X3_firstDoubt h v0 v2).bind fun t8 => if t8 = (-1 : Int32) then some (.inr (.inl ())) else (some (mxI v1 t8)).bind fun t9 => f_X3_firstClash_j57 h v0 t9 v2
def f_X3_firstClash_l16 (h : aH) (v0 : Nat) (v1 : Int32) (v2 : Int32) : Option ((Unit) ⊕ (Int32)) := whileL wN (fun q : Int32 × Int32 => f_X3_firstClash_b16 h v0 q.1 q.2) (v1, v2)
def f_X3_firstClash (h : aH) (v0 : Nat) : Option (Int32) := (gR h 3 v0 0).bind fun t1 => (gI h 6 t1 4).bind fun t2 => if t2 = 0 then some (-1 : Int32) else (f_X3_firstClash_l16 h v0 (0 : Int32) (0 : Int32)).bind fun e => match e with | .inl _ => some (-1 : Int32) | .inr t10 => some t10
theorem s_X3_firstClash {h : aH} {v0 : Nat} {out : Int32} (hf0 : f_X3_firstClash h v0 = some out) : EV 3 yX3_firstClash cX3_firstClash 4 (some .int) h [.ref v0] (some (.int out)) h 0 0 := by
  refine EV.of (own := RX3) (lv0 := [(0, .ref v0)]) (by decide +kernel) rfl rfl (Nat.le_of_ble_eq_true rfl) ?_
  intro p l e s m args below meth c D cA B Hb C hin
  unfold f_X3_firstClash at hf0
  refine r_aload_n C dX3_firstClash_0 rfl ?_
  obtain ⟨t1, e2, hf0⟩ := ob hf0
  refine r_getR C fk_X3_12 rfl dX3_firstClash_1 e2 ?_
  obtain ⟨t3, e4, hf0⟩ := ob hf0
  refine r_getI C fk_X3_42 rfl dX3_firstClash_4 e4 ?_
  refine r_ifne (tgt := 12) C dX3_firstClash_7 (by decide) (fun c5 => ?_) (fun c5 => ?_)
  · rw [if_neg c5] at hf0
    refine r_iconst (v := 0) C dX3_firstClash_12 (by decide) ?_
    refine r_istore_n (lv' := [(1, .int (0 : Int32)), (0, .ref v0)]) C dX3_firstClash_13 (by decide) rfl rfl ?_
    refine r_iconst (v := 0) C dX3_firstClash_14 (by decide) ?_
    refine r_istore_n (lv' := [(2, .int (0 : Int32)), (1, .int (0 : Int32)), (0, .ref v0)]) C dX3_firstClash_15 (by decide) rfl rfl ?_
    obtain ⟨y6, hl16, hf0⟩ := ob hf0
    have L16 : ∀ (n : Nat) (t7 : Int32) (t8 : Int32), whileL n (fun q : Int32 × Int32 => f_X3_firstClash_b16 h v0 q.1 q.2) (t7, t8) = some y6 → gW p l e (rmO 3 0 0) s m args below meth c (MQ below (eQ D cA B Hb h (some (.int out))) args s 0 0 (fun q => B ≤ q)) D cA B Hb 4 h 16 [(0, .ref v0), (1, .int t7), (2, .int t8)] [] 0 0 := by
      intro n
      induction n with
      | zero => intro t7 t8 hz; cases hz
      | succ n ih16 =>
        intro t7 t8 hz
        obtain ⟨x16, hf1, hk16⟩ := wl hz
        replace hf1 : f_X3_firstClash_b16 h v0 t7 t8 = some x16 := hf1
        unfold f_X3_firstClash_b16 at hf1
        have J57 : ∀ (t9 : Int32) (t10 : Int32), f_X3_firstClash_j57 h v0 t9 t10 = some x16 → gW p l e (rmO 3 0 0) s m args below meth c (MQ below (eQ D cA B Hb h (some (.int out))) args s 0 0 (fun q => B ≤ q)) D cA B Hb 4 h 57 [(0, .ref v0), (1, .int t9), (2, .int t10)] [] 0 0 := by
          intro t9 t10 hf1
          unfold f_X3_firstClash_j57 at hf1
          obtain ⟨t11, e12, hf1⟩ := ob hf1
          refine r_iinc (lv' := [(2, .int t11), (0, .ref v0), (1, .int t9)]) C dX3_firstClash_57 rfl e12 (by decide) rfl ?_
          refine r_goto (tgt := 16) C dX3_firstClash_60 (by decide) ?_
          obtain rfl := so hf1
          refine r_subk [1, 2, 0] (lv' := [(0, .ref v0), (1, .int t9), (2, .int t11)]) rfl ?_
          exact ih16 t9 t11 hk16
        refine r_iload_n C dX3_firstClash_16 rfl ?_
        refine r_aload_n C dX3_firstClash_17 rfl ?_
        obtain ⟨t13, e14, hf1⟩ := ob hf1
        refine r_getR C fk_X3_35 rfl dX3_firstClash_18 e14 ?_
        obtain ⟨t15, e16, hf1⟩ := ob hf1
        refine r_getI C fk_X3_60 rfl dX3_firstClash_21 e16 ?_
        refine r_icmp_ge (tgt := 63) C dX3_firstClash_24 (by decide) (fun c17 => ?_) (fun c17 => ?_)
        · rw [if_pos c17] at hf1
          obtain rfl := so hf1
          obtain rfl := so (show some (.inr t7 : (Unit) ⊕ (Int32)) = some y6 from hk16)
          dsimp only at hf0
          refine r_iload_n C dX3_firstClash_63 rfl ?_
          obtain rfl := so hf0
          exact r_iret C dX3_firstClash_64
        · rw [if_neg c17] at hf1
          refine r_aload_n C dX3_firstClash_27 rfl ?_
          obtain ⟨t18, e19, hf1⟩ := ob hf1
          refine r_getR C fk_X3_35 rfl dX3_firstClash_28 e19 ?_
          refine r_iload_n C dX3_firstClash_31 rfl ?_
          obtain ⟨u21, e20, hf1⟩ := ob hf1
          obtain ⟨t22, e23, hf1⟩ := ob hf1
          refine r_cV (ci := 1) (rest := []) (st2 := [.int t22]) C (s_X1_canBe e23) mk_X1_canBe rfl (ck_k e20) (by decide) im_X1_canBe sl_X1_canBe lk_X3_66 rfl rfl rfl dX3_firstClash_32 (Nat.le_of_ble_eq_true rfl) ⟨Nat.le_of_ble_eq_true rfl, Nat.le_of_ble_eq_true rfl⟩ ⟨Nat.le_of_ble_eq_true rfl, Nat.le_of_ble_eq_true rfl⟩ ?_
          refine r_ifeq (tgt := 57) C dX3_firstClash_35 (by decide) (fun c24 => ?_) (fun c24 => ?_)
          · rw [if_pos c24] at hf1
            exact J57 t7 t8 hf1
          · rw [if_neg c24] at hf1
            refine r_aload_n C dX3_firstClash_38 rfl ?_
            refine r_iload_n C dX3_firstClash_39 rfl ?_
            obtain ⟨u26, e25, hf1⟩ := ob hf1
            obtain ⟨t27, e28, hf1⟩ := ob hf1
            refine r_cV (ci := 3) (rest := []) (st2 := [.int t27]) C (s_X3_firstDoubt e28) mk_X3_firstDoubt rfl (ck_k e25) (by decide) im_X3_firstDoubt sl_X3_firstDoubt lk_X3_139 rfl rfl rfl dX3_firstClash_40 (Nat.le_of_ble_eq_true rfl) ⟨Nat.le_of_ble_eq_true rfl, Nat.le_of_ble_eq_true rfl⟩ ⟨Nat.le_of_ble_eq_true rfl, Nat.le_of_ble_eq_true rfl⟩ ?_
            refine r_istore_n (lv' := [(3, .int t27), (0, .ref v0), (1, .int t7), (2, .int t8)]) C dX3_firstClash_43 (by decide) rfl rfl ?_
            refine r_iload_n C dX3_firstClash_44 rfl ?_
            refine r_iconst (v := -1) C dX3_firstClash_45 (by decide) ?_
            refine r_icmp_ne (tgt := 51) C dX3_firstClash_46 (by decide) (fun c29 => ?_) (fun c29 => ?_)
            · rw [if_neg c29] at hf1
              refine r_iload_n C dX3_firstClash_51 rfl ?_
              refine r_iload_n C dX3_firstClash_52 rfl ?_
              refine r_mmax C lk_X3_125 dX3_firstClash_53 ⟨Nat.le_of_ble_eq_true rfl, Nat.le_of_ble_eq_true rfl⟩ (Nat.le_of_ble_eq_true rfl) ⟨Nat.le_of_ble_eq_true rfl, Nat.le_of_ble_eq_true rfl⟩ ?_
              obtain ⟨t30, e31, hf1⟩ := ob hf1
              refine r_istore_n (lv' := [(1, .int t30), (3, .int t27), (0, .ref v0), (2, .int t8)]) C dX3_firstClash_56 (by decide) e31 rfl ?_
              refine r_subk [2, 0, 3] (lv' := [(0, .ref v0), (1, .int t30), (2, .int t8)]) rfl ?_
              exact J57 t30 t8 hf1
            · rw [if_pos c29] at hf1
              obtain rfl := so hf1
              obtain rfl := so (show some (.inl () : (Unit) ⊕ (Int32)) = some y6 from hk16)
              dsimp only at hf0
              refine r_iconst (v := -1) C dX3_firstClash_49 (by decide) ?_
              obtain rfl := so hf0
              exact r_iret C dX3_firstClash_50
    refine r_subk [2, 1, 0] (lv' := [(0, .ref v0), (1, .int (0 : Int32)), (2, .int (0 : Int32))]) rfl ?_
    exact L16 wN (0 : Int32) (0 : Int32) hl16
  · rw [if_pos c5] at hf0
    refine r_iconst (v := -1) C dX3_firstClash_10 (by decide) ?_
    obtain rfl := so hf0
    exact r_iret C dX3_firstClash_11
def f_X3_neverHonest_b4 (h : aH) (v0 : Nat) (v1 : Int32) (v2 : Int32) : Option ((Int32 × Int32) ⊕ (Int32)) := (gI h 3 v0 5).bind fun t1 => if t1 ≤ v2 then some (.inr v1) else (gR h 3 v0 1).bind fun t2 => (gR h 3 v0 2).bind fun t3 => (lI h t3 v2).bind fun t4 => (lI h t2 t4).bind fun t5 => (some (v1 ||| t5)).bind fun t6 => (some (v2 + (1 : Int32))).bind fun t7 => some (.inl (t6, t7))
def f_X3_neverHonest_l4 (h : aH) (v0 : Nat) (v1 : Int32) (v2 : Int32) : Option (Int32) := whileL wN (fun q : Int32 × Int32 => f_X3_neverHonest_b4 h v0 q.1 q.2) (v1, v2)
def f_X3_neverHonest_j63 (h : aH) (v0 : Nat) (v1 : Int32) (v2 : Int32) (v3 : Int32) : Option ((Int32 × Int32) ⊕ (Int32)) := (some (v3 + (1 : Int32))).bind fun t9 => some (.inl (v2, t9))
def f_X3_neverHonest_b36 (h : aH) (v0 : Nat) (v1 : Int32) (v2 : Int32) (v3 : Int32) : Option ((Int32 × Int32) ⊕ (Int32)) := (gR h 3 v0 4).bind fun t10 => (gI h 1 t10 17).bind fun t11 => if t11 ≤ v3 then some (.inr v2) else if ((v1 >>> ((v3 * (4 : Int32)) &&& 31)) &&& (1 : Int32)) = 0 then (some (v2 ||| ((1 : Int32) <<< (v3 &&& 31)))).bind fun t12 => f_X3_neverHonest_j63 h v0 v1 t12 v3 else f_X3_neverHonest_j63 h v0 v1 v2 v3
def f_X3_neverHonest_l36 (h : aH) (v0 : Nat) (v1 : Int32) (v2 : Int32) (v3 : Int32) : Option (Int32) := whileL wN (fun q : Int32 × Int32 => f_X3_neverHonest_b36 h v0 v1 q.1 q.2) (v2, v3)
def f_X3_neverHonest (h : aH) (v0 : Nat) : Option (Int32) := (f_X3_neverHonest_l4 h v0 (0 : Int32) (0 : Int32)).bind fun t8 => (f_X3_neverHonest_l36 h v0 t8 (0 : Int32) (0 : Int32)).bind fun t13 => some t13
theorem s_X3_neverHonest {h : aH} {v0 : Nat} {out : Int32} (hf0 : f_X3_neverHonest h v0 = some out) : EV 0 yX3_neverHonest cX3_neverHonest 4 (some .int) h [.ref v0] (some (.int out)) h 0 0 := by
  refine EV.of (own := RX3) (lv0 := [(0, .ref v0)]) (by decide +kernel) rfl rfl (Nat.le_of_ble_eq_true rfl) ?_
  intro p l e s m args below meth c D cA B Hb C hin
  unfold f_X3_neverHonest at hf0
  refine r_iconst (v := 0) C dX3_neverHonest_0 (by decide) ?_
  refine r_istore_n (lv' := [(1, .int (0 : Int32)), (0, .ref v0)]) C dX3_neverHonest_1 (by decide) rfl rfl ?_
  refine r_iconst (v := 0) C dX3_neverHonest_2 (by decide) ?_
  refine r_istore_n (lv' := [(2, .int (0 : Int32)), (1, .int (0 : Int32)), (0, .ref v0)]) C dX3_neverHonest_3 (by decide) rfl rfl ?_
  obtain ⟨y1, hl4, hf0⟩ := ob hf0
  have L4 : ∀ (n : Nat) (t2 : Int32) (t3 : Int32), whileL n (fun q : Int32 × Int32 => f_X3_neverHonest_b4 h v0 q.1 q.2) (t2, t3) = some y1 → gW p l e (rmO 0 0 0) s m args below meth c (MQ below (eQ D cA B Hb h (some (.int out))) args s 0 0 (fun q => B ≤ q)) D cA B Hb 4 h 4 [(0, .ref v0), (1, .int t2), (2, .int t3)] [] 0 0 := by
    intro n
    induction n with
    | zero => intro t2 t3 hz; cases hz
    | succ n ih4 =>
      intro t2 t3 hz
      obtain ⟨x4, hf1, hk4⟩ := wl hz
      replace hf1 : f_X3_neverHonest_b4 h v0 t2 t3 = some x4 := hf1
      unfold f_X3_neverHonest_b4 at hf1
      refine r_iload_n C dX3_neverHonest_4 rfl ?_
      refine r_aload_n C dX3_neverHonest_5 rfl ?_
      obtain ⟨t4, e5, hf1⟩ := ob hf1
      refine r_getI C fk_X3_28 rfl dX3_neverHonest_6 e5 ?_
      refine r_icmp_ge (tgt := 32) C dX3_neverHonest_9 (by decide) (fun c6 => ?_) (fun c6 => ?_)
      · rw [if_pos c6] at hf1
        obtain rfl := so hf1
        obtain rfl := so (show some t2 = some y1 from hk4)
        refine r_iconst (v := 0) C dX3_neverHonest_32 (by decide) ?_
        refine r_istore_n (lv' := [(2, .int (0 : Int32)), (0, .ref v0), (1, .int t2)]) C dX3_neverHonest_33 (by decide) rfl rfl ?_
        refine r_iconst (v := 0) C dX3_neverHonest_34 (by decide) ?_
        refine r_istore_n (lv' := [(3, .int (0 : Int32)), (2, .int (0 : Int32)), (0, .ref v0), (1, .int t2)]) C dX3_neverHonest_35 (by decide) rfl rfl ?_
        obtain ⟨y7, hl36, hf0⟩ := ob hf0
        have L36 : ∀ (n : Nat) (t8 : Int32) (t9 : Int32), whileL n (fun q : Int32 × Int32 => f_X3_neverHonest_b36 h v0 t2 q.1 q.2) (t8, t9) = some y7 → gW p l e (rmO 0 0 0) s m args below meth c (MQ below (eQ D cA B Hb h (some (.int out))) args s 0 0 (fun q => B ≤ q)) D cA B Hb 4 h 36 [(0, .ref v0), (1, .int t2), (2, .int t8), (3, .int t9)] [] 0 0 := by
          intro n
          induction n with
          | zero => intro t8 t9 hz; cases hz
          | succ n ih36 =>
            intro t8 t9 hz
            obtain ⟨x36, hf1, hk36⟩ := wl hz
            replace hf1 : f_X3_neverHonest_b36 h v0 t2 t8 t9 = some x36 := hf1
            unfold f_X3_neverHonest_b36 at hf1
            have J63 : ∀ (t10 : Int32) (t11 : Int32), f_X3_neverHonest_j63 h v0 t2 t10 t11 = some x36 → gW p l e (rmO 0 0 0) s m args below meth c (MQ below (eQ D cA B Hb h (some (.int out))) args s 0 0 (fun q => B ≤ q)) D cA B Hb 4 h 63 [(0, .ref v0), (1, .int t2), (2, .int t10), (3, .int t11)] [] 0 0 := by
              intro t10 t11 hf1
              unfold f_X3_neverHonest_j63 at hf1
              obtain ⟨t12, e13, hf1⟩ := ob hf1
              refine r_iinc (lv' := [(3, .int t12), (0, .ref v0), (1, .int t2), (2, .int t10)]) C dX3_neverHonest_63 rfl e13 (by decide) rfl ?_
              refine r_goto (tgt := 36) C dX3_neverHonest_66 (by decide) ?_
              obtain rfl := so hf1
              refine r_subk [1, 2, 3, 0] (lv' := [(0, .ref v0), (1, .int t2), (2, .int t10), (3, .int t12)]) rfl ?_
              exact ih36 t10 t12 hk36
            refine r_iload_n C dX3_neverHonest_36 rfl ?_
            refine r_aload_n C dX3_neverHonest_37 rfl ?_
            obtain ⟨t14, e15, hf1⟩ := ob hf1
            refine r_getR C fk_X3_35 rfl dX3_neverHonest_38 e15 ?_
            obtain ⟨t16, e17, hf1⟩ := ob hf1
            refine r_getI C fk_X3_110 rfl dX3_neverHonest_41 e17 ?_
            refine r_icmp_ge (tgt := 69) C dX3_neverHonest_44 (by decide) (fun c18 => ?_) (fun c18 => ?_)
            · rw [if_pos c18] at hf1
              obtain rfl := so hf1
              obtain rfl := so (show some t8 = some y7 from hk36)
              refine r_iload_n C dX3_neverHonest_69 rfl ?_
              obtain rfl := so hf0
              exact r_iret C dX3_neverHonest_70
            · rw [if_neg c18] at hf1
              refine r_iload_n C dX3_neverHonest_47 rfl ?_
              refine r_iload_n C dX3_neverHonest_48 rfl ?_
              refine r_iconst (v := 4) C dX3_neverHonest_49 (by decide) ?_
              refine r_imul C dX3_neverHonest_50 ?_
              refine r_ishr C dX3_neverHonest_51 ?_
              refine r_iconst (v := 1) C dX3_neverHonest_52 (by decide) ?_
              refine r_iand C dX3_neverHonest_53 ?_
              refine r_ifne (tgt := 63) C dX3_neverHonest_54 (by decide) (fun c19 => ?_) (fun c19 => ?_)
              · rw [if_neg c19] at hf1
                exact J63 t8 t9 hf1
              · rw [if_pos c19] at hf1
                refine r_iload_n C dX3_neverHonest_57 rfl ?_
                refine r_iconst (v := 1) C dX3_neverHonest_58 (by decide) ?_
                refine r_iload_n C dX3_neverHonest_59 rfl ?_
                refine r_ishl C dX3_neverHonest_60 ?_
                refine r_ior C dX3_neverHonest_61 ?_
                obtain ⟨t20, e21, hf1⟩ := ob hf1
                refine r_istore_n (lv' := [(2, .int t20), (0, .ref v0), (1, .int t2), (3, .int t9)]) C dX3_neverHonest_62 (by decide) e21 rfl ?_
                refine r_subk [1, 2, 0, 3] (lv' := [(0, .ref v0), (1, .int t2), (2, .int t20), (3, .int t9)]) rfl ?_
                exact J63 t20 t9 hf1
        refine r_subk [2, 3, 1, 0] (lv' := [(0, .ref v0), (1, .int t2), (2, .int (0 : Int32)), (3, .int (0 : Int32))]) rfl ?_
        exact L36 wN (0 : Int32) (0 : Int32) hl36
      · rw [if_neg c6] at hf1
        refine r_iload_n C dX3_neverHonest_12 rfl ?_
        refine r_aload_n C dX3_neverHonest_13 rfl ?_
        obtain ⟨t22, e23, hf1⟩ := ob hf1
        refine r_getR C fk_X3_18 rfl dX3_neverHonest_14 e23 ?_
        refine r_aload_n C dX3_neverHonest_17 rfl ?_
        obtain ⟨t24, e25, hf1⟩ := ob hf1
        refine r_getR C fk_X3_22 rfl dX3_neverHonest_18 e25 ?_
        refine r_iload_n C dX3_neverHonest_21 rfl ?_
        obtain ⟨t26, e27, hf1⟩ := ob hf1
        refine r_ldI C dX3_neverHonest_22 e27 ?_
        obtain ⟨t28, e29, hf1⟩ := ob hf1
        refine r_ldI C dX3_neverHonest_23 e29 ?_
        refine r_ior C dX3_neverHonest_24 ?_
        obtain ⟨t30, e31, hf1⟩ := ob hf1
        refine r_istore_n (lv' := [(1, .int t30), (0, .ref v0), (2, .int t3)]) C dX3_neverHonest_25 (by decide) e31 rfl ?_
        obtain ⟨t32, e33, hf1⟩ := ob hf1
        refine r_iinc (lv' := [(2, .int t32), (1, .int t30), (0, .ref v0)]) C dX3_neverHonest_26 rfl e33 (by decide) rfl ?_
        refine r_goto (tgt := 4) C dX3_neverHonest_29 (by decide) ?_
        obtain rfl := so hf1
        refine r_subk [2, 1, 0] (lv' := [(0, .ref v0), (1, .int t30), (2, .int t32)]) rfl ?_
        exact ih4 t30 t32 hk4
  refine r_subk [2, 1, 0] (lv' := [(0, .ref v0), (1, .int (0 : Int32)), (2, .int (0 : Int32))]) rfl ?_
  exact L4 wN (0 : Int32) (0 : Int32) hl4
def f_X4_putBytes_b3 (v0 : Nat) (v1 : Int32) (v2 : Int32) (h : aH) : Option ((Int32 × aH) ⊕ (aH)) := if v2 < 0 then some (.inr h) else (gI h 4 v0 6).bind fun t1 => if (900 : Int32) ≤ t1 then some (.inr h) else (gR h 4 v0 0).bind fun t2 => (gI h 4 v0 6).bind fun t3 => (sB h t2 t3 ((Int32.toInt8 (v1 >>> (v2 &&& 31))).toInt32)).bind fun h4 => (gI h4 4 v0 6).bind fun t5 => (pI h4 4 v0 6 (t5 + (1 : Int32))).bind fun h6 => (some (v2 + (-8 : Int32))).bind fun t7 => some (.inl (t7, h6))
def f_X4_putBytes_l3 (v0 : Nat) (v1 : Int32) (v2 : Int32) (h : aH) : Option (aH) := whileL wN (fun q : Int32 × aH => f_X4_putBytes_b3 v0 v1 q.1 q.2) (v2, h)
def f_X4_putBytes (h : aH) (v0 : Nat) (v1 : Int32) : Option (aH) := (f_X4_putBytes_l3 v0 v1 (24 : Int32) h).bind fun h8 => some h8
theorem s_X4_putBytes {h : aH} {v0 : Nat} {v1 : Int32} {out : aH} (hf0 : f_X4_putBytes h v0 v1 = some out) : EV 0 yX4_putBytes cX4_putBytes 3 none h [.ref v0, .int v1] none out 0 0 := by
  refine EV.of (own := RX4) (lv0 := [(0, .ref v0), (1, .int v1)]) (by decide +kernel) rfl rfl (Nat.le_of_ble_eq_true rfl) ?_
  intro p l e s m args below meth c D cA B Hb C hin
  unfold f_X4_putBytes at hf0
  refine r_bipush (v := 24) C dX4_putBytes_0 (by decide) ?_
  refine r_istore_n (lv' := [(2, .int (24 : Int32)), (0, .ref v0), (1, .int v1)]) C dX4_putBytes_2 (by decide) rfl rfl ?_
  obtain ⟨y1, hl3, hf0⟩ := ob hf0
  have L3 : ∀ (n : Nat) (t2 : Int32) (h3 : aH), whileL n (fun q : Int32 × aH => f_X4_putBytes_b3 v0 v1 q.1 q.2) (t2, h3) = some y1 → gW p l e (rmO 0 0 0) s m args below meth c (MQ below (eQ D cA B Hb out none) args s 0 0 (fun q => B ≤ q)) D cA B Hb 3 h3 3 [(0, .ref v0), (1, .int v1), (2, .int t2)] [] 0 0 := by
    intro n
    induction n with
    | zero => intro t2 h3 hz; cases hz
    | succ n ih3 =>
      intro t2 h3 hz
      obtain ⟨x3, hf1, hk3⟩ := wl hz
      replace hf1 : f_X4_putBytes_b3 v0 v1 t2 h3 = some x3 := hf1
      unfold f_X4_putBytes_b3 at hf1
      refine r_iload_n C dX4_putBytes_3 rfl ?_
      refine r_iflt (tgt := 46) C dX4_putBytes_4 (by decide) (fun c4 => ?_) (fun c4 => ?_)
      · rw [if_pos c4] at hf1
        obtain rfl := so hf1
        obtain rfl := so (show some h3 = some y1 from hk3)
        obtain rfl := so hf0
        exact r_vret C dX4_putBytes_46
      · rw [if_neg c4] at hf1
        refine r_aload_n C dX4_putBytes_7 rfl ?_
        obtain ⟨t5, e6, hf1⟩ := ob hf1
        refine r_getI C fk_X4_32 rfl dX4_putBytes_8 e6 ?_
        refine r_sipush (v := 900) C dX4_putBytes_11 (by decide) ?_
        refine r_icmp_ge (tgt := 46) C dX4_putBytes_14 (by decide) (fun c7 => ?_) (fun c7 => ?_)
        · rw [if_pos c7] at hf1
          obtain rfl := so hf1
          obtain rfl := so (show some h3 = some y1 from hk3)
          obtain rfl := so hf0
          exact r_vret C dX4_putBytes_46
        · rw [if_neg c7] at hf1
          refine r_aload_n C dX4_putBytes_17 rfl ?_
          obtain ⟨t8, e9, hf1⟩ := ob hf1
          refine r_getR C fk_X4_9 rfl dX4_putBytes_18 e9 ?_
          refine r_aload_n C dX4_putBytes_21 rfl ?_
          obtain ⟨t10, e11, hf1⟩ := ob hf1
          refine r_getI C fk_X4_32 rfl dX4_putBytes_22 e11 ?_
          refine r_iload_n C dX4_putBytes_25 rfl ?_
          refine r_iload_n C dX4_putBytes_26 rfl ?_
          refine r_ishr C dX4_putBytes_27 ?_
          refine r_i2b C dX4_putBytes_28 ?_
          obtain ⟨h12, e13, hf1⟩ := ob hf1
          refine r_stB C dX4_putBytes_29 e13 ?_
          refine r_aload_n C dX4_putBytes_30 rfl ?_
          refine r_dup C dX4_putBytes_31 rfl ?_
          obtain ⟨t14, e15, hf1⟩ := ob hf1
          refine r_getI C fk_X4_32 rfl dX4_putBytes_32 e15 ?_
          refine r_iconst (v := 1) C dX4_putBytes_35 (by decide) ?_
          refine r_iadd C dX4_putBytes_36 ?_
          obtain ⟨h16, e17, hf1⟩ := ob hf1
          refine r_putI C fk_X4_32 dX4_putBytes_37 e17 ?_
          obtain ⟨t18, e19, hf1⟩ := ob hf1
          refine r_iinc (lv' := [(2, .int t18), (0, .ref v0), (1, .int v1)]) C dX4_putBytes_40 rfl e19 (by decide) rfl ?_
          refine r_goto (tgt := 3) C dX4_putBytes_43 (by decide) ?_
          obtain rfl := so hf1
          refine r_subk [1, 2, 0] (lv' := [(0, .ref v0), (1, .int v1), (2, .int t18)]) rfl ?_
          exact ih3 t18 h16 hk3
  refine r_subk [1, 2, 0] (lv' := [(0, .ref v0), (1, .int v1), (2, .int (24 : Int32))]) rfl ?_
  exact L3 wN (24 : Int32) h hl3
def f_X4_isBlank (h : aH) (v0 : Int32) : Option (Int32) := if v0 = (10 : Int32) then some (1 : Int32) else if v0 = (32 : Int32) then some (1 : Int32) else some (0 : Int32)
theorem s_X4_isBlank {h : aH} {v0 : Int32} {out : Int32} (hf0 : f_X4_isBlank h v0 = some out) : EV 0 yX4_isBlank cX4_isBlank 1 (some .boolean) h [.int v0] (some (.int out)) h 0 0 := by
  refine EV.of (own := RX4) (lv0 := [(0, .int v0)]) (by decide +kernel) rfl rfl (Nat.le_of_ble_eq_true rfl) ?_
  intro p l e s m args below meth c D cA B Hb C hin
  unfold f_X4_isBlank at hf0
  refine r_iload_n C dX4_isBlank_0 rfl ?_
  refine r_bipush (v := 10) C dX4_isBlank_1 (by decide) ?_
  refine r_icmp_eq (tgt := 12) C dX4_isBlank_3 (by decide) (fun c1 => ?_) (fun c1 => ?_)
  · rw [if_pos c1] at hf0
    refine r_iconst (v := 1) C dX4_isBlank_12 (by decide) ?_
    refine r_goto (tgt := 17) C dX4_isBlank_13 (by decide) ?_
    obtain rfl := so hf0
    exact r_zret C dX4_isBlank_17 (Or.inr rfl)
  · rw [if_neg c1] at hf0
    refine r_iload_n C dX4_isBlank_6 rfl ?_
    refine r_bipush (v := 32) C dX4_isBlank_7 (by decide) ?_
    refine r_icmp_ne (tgt := 16) C dX4_isBlank_9 (by decide) (fun c2 => ?_) (fun c2 => ?_)
    · rw [if_neg c2] at hf0
      refine r_iconst (v := 0) C dX4_isBlank_16 (by decide) ?_
      obtain rfl := so hf0
      exact r_zret C dX4_isBlank_17 (Or.inl rfl)
    · rw [if_pos c2] at hf0
      refine r_iconst (v := 1) C dX4_isBlank_12 (by decide) ?_
      refine r_goto (tgt := 17) C dX4_isBlank_13 (by decide) ?_
      obtain rfl := so hf0
      exact r_zret C dX4_isBlank_17 (Or.inr rfl)
def f_X4_isLetter (h : aH) (v0 : Int32) : Option (Int32) := if v0 < (97 : Int32) then some (0 : Int32) else if (122 : Int32) < v0 then some (0 : Int32) else some (1 : Int32)
theorem s_X4_isLetter {h : aH} {v0 : Int32} {out : Int32} (hf0 : f_X4_isLetter h v0 = some out) : EV 0 yX4_isLetter cX4_isLetter 1 (some .boolean) h [.int v0] (some (.int out)) h 0 0 := by
  refine EV.of (own := RX4) (lv0 := [(0, .int v0)]) (by decide +kernel) rfl rfl (Nat.le_of_ble_eq_true rfl) ?_
  intro p l e s m args below meth c D cA B Hb C hin
  unfold f_X4_isLetter at hf0
  refine r_iload_n C dX4_isLetter_0 rfl ?_
  refine r_bipush (v := 97) C dX4_isLetter_1 (by decide) ?_
  refine r_icmp_lt (tgt := 16) C dX4_isLetter_3 (by decide) (fun c1 => ?_) (fun c1 => ?_)
  · rw [if_pos c1] at hf0
    refine r_iconst (v := 0) C dX4_isLetter_16 (by decide) ?_
    obtain rfl := so hf0
    exact r_zret C dX4_isLetter_17 (Or.inl rfl)
  · rw [if_neg c1] at hf0
    refine r_iload_n C dX4_isLetter_6 rfl ?_
    refine r_bipush (v := 122) C dX4_isLetter_7 (by decide) ?_
    refine r_icmp_gt (tgt := 16) C dX4_isLetter_9 (by decide) (fun c2 => ?_) (fun c2 => ?_)
    · rw [if_pos c2] at hf0
      refine r_iconst (v := 0) C dX4_isLetter_16 (by decide) ?_
      obtain rfl := so hf0
      exact r_zret C dX4_isLetter_17 (Or.inl rfl)
    · rw [if_neg c2] at hf0
      refine r_iconst (v := 1) C dX4_isLetter_12 (by decide) ?_
      refine r_goto (tgt := 17) C dX4_isLetter_13 (by decide) ?_
      obtain rfl := so hf0
      exact r_zret C dX4_isLetter_17 (Or.inr rfl)
def f_X4_withLetter (h : aH) (v0 : Int64) (v2 : Int32) : Option (Int64) := some ((v0 <<< (Int32.toInt64 (5 : Int32) &&& 63)) ||| (Int32.toInt64 ((v2 - (97 : Int32)) + (1 : Int32))))
theorem s_X4_withLetter {h : aH} {v0 : Int64} {v2 : Int32} {out : Int64} (hf0 : f_X4_withLetter h v0 v2 = some out) : EV 0 yX4_withLetter cX4_withLetter 3 (some .long) h [.long v0, .int v2] (some (.long out)) h 0 0 := by
  refine EV.of (own := RX4) (lv0 := [(0, .long v0), (2, .int v2)]) (by decide +kernel) rfl rfl (Nat.le_of_ble_eq_true rfl) ?_
  intro p l e s m args below meth c D cA B Hb C hin
  unfold f_X4_withLetter at hf0
  refine r_lload_n C dX4_withLetter_0 rfl ?_
  refine r_iconst (v := 5) C dX4_withLetter_1 (by decide) ?_
  refine r_lshl C dX4_withLetter_2 ?_
  refine r_iload_n C dX4_withLetter_3 rfl ?_
  refine r_bipush (v := 97) C dX4_withLetter_4 (by decide) ?_
  refine r_isub C dX4_withLetter_6 ?_
  refine r_iconst (v := 1) C dX4_withLetter_7 (by decide) ?_
  refine r_iadd C dX4_withLetter_8 ?_
  refine r_i2l C dX4_withLetter_9 ?_
  refine r_lor C dX4_withLetter_10 ?_
  obtain rfl := so hf0
  exact r_lret C dX4_withLetter_11
def f_X4_scanWord_b88 (h : aH) (v0 : Nat) (v2 : Int64) (v5 : Int32) : Option ((Int32) ⊕ ((Int32) ⊕ (Unit))) := if (27 : Int32) ≤ v5 then some (.inr (.inr ())) else (gR h 4 v0 1).bind fun t3 => (lJ h t3 v5).bind fun t4 => if (lg_cmp t4 v2) = 0 then some (.inr (.inl v5)) else (some (v5 + (1 : Int32))).bind fun t5 => some (.inl t5)
def f_X4_scanWord_l88 (h : aH) (v0 : Nat) (v2 : Int64) (v5 : Int32) : Option ((Int32) ⊕ (Unit)) := whileL wN (fun q : Int32 => f_X4_scanWord_b88 h v0 v2 q) v5
def f_X4_scanWord_j68 (h : aH) (v0 : Nat) (v1 : Int32) (v2 : Int64) (v4 : Int32) : Option (Int32 × aH) := (gR h 4 v0 5).bind fun t1 => (sJ h t1 v1 v2).bind fun h2 => if v4 ≤ (8 : Int32) then (f_X4_scanWord_l88 h2 v0 v2 (0 : Int32)).bind fun e => match e with | .inl t6 => some ((8 : Int32) + t6, h2) | .inr _ => some ((6 : Int32), h2) else some ((7 : Int32), h2)
def f_X4_scanWord_j52 (h : aH) (v0 : Nat) (v1 : Int32) (v2 : Int64) (v4 : Int32) : Option ((Int64 × Int32 × aH) ⊕ (Int64 × Int32 × aH)) := (some (v4 + (1 : Int32))).bind fun t7 => (gI h 4 v0 8).bind fun t8 => (pI h 4 v0 8 (t8 + (1 : Int32))).bind fun h9 => some (.inl (v2, t7, h9))
def f_X4_scanWord_b5 (v0 : Nat) (v1 : Int32) (v2 : Int64) (v4 : Int32) (h : aH) : Option ((Int64 × Int32 × aH) ⊕ (Int64 × Int32 × aH)) := (gI h 4 v0 8).bind fun t10 => (gI h 4 v0 7).bind fun t11 => if t11 ≤ t10 then some (.inr (v2, v4, h)) else (gR h 4 v0 0).bind fun t12 => (gI h 4 v0 8).bind fun t13 => (lB h t12 t13).bind fun t14 => (f_X4_isLetter h t14).bind fun t15 => if t15 = 0 then some (.inr (v2, v4, h)) else if (8 : Int32) ≤ v4 then f_X4_scanWord_j52 h v0 v1 v2 v4 else (gR h 4 v0 0).bind fun t16 => (gI h 4 v0 8).bind fun t17 => (lB h t16 t17).bind fun t18 => (f_X4_withLetter h v2 t18).bind fun t19 => f_X4_scanWord_j52 h v0 v1 t19 v4
def f_X4_scanWord_l5 (v0 : Nat) (v1 : Int32) (v2 : Int64) (v4 : Int32) (h : aH) : Option (Int64 × Int32 × aH) := whileL wN (fun q : Int64 × Int32 × aH => f_X4_scanWord_b5 v0 v1 q.1 q.2.1 q.2.2) (v2, v4, h)
def f_X4_scanWord (h : aH) (v0 : Nat) (v1 : Int32) : Option (Int32 × aH) := bd3 (f_X4_scanWord_l5 v0 v1 (0 : Int64) (0 : Int32) h) fun t20 t21 h22 => f_X4_scanWord_j68 h22 v0 v1 t20 t21
theorem s_X4_scanWord {h : aH} {v0 : Nat} {v1 : Int32} {out : Int32 × aH} (hf0 : f_X4_scanWord h v0 v1 = some out) : EV 1 yX4_scanWord cX4_scanWord 6 (some .int) h [.ref v0, .int v1] (some (.int out.1)) out.2 0 0 := by
  refine EV.of (own := RX4) (lv0 := [(0, .ref v0), (1, .int v1)]) (by decide +kernel) rfl rfl (Nat.le_of_ble_eq_true rfl) ?_
  intro p l e s m args below meth c D cA B Hb C hin
  unfold f_X4_scanWord at hf0
  have J68 : ∀ (h1 : aH) (t2 : Nat) (t3 : Int32) (t4 : Int64) (t5 : Int32), f_X4_scanWord_j68 h1 t2 t3 t4 t5 = some out → gW p l e (rmO 1 0 0) s m args below meth c (MQ below (eQ D cA B Hb out.2 (some (.int out.1))) args s 0 0 (fun q => B ≤ q)) D cA B Hb 6 h1 68 [(0, .ref t2), (1, .int t3), (2, .long t4), (4, .int t5)] [] 0 0 := by
    intro h1 t2 t3 t4 t5 hf0
    unfold f_X4_scanWord_j68 at hf0
    refine r_aload_n C dX4_scanWord_68 rfl ?_
    obtain ⟨t6, e7, hf0⟩ := ob hf0
    refine r_getR C fk_X4_29 rfl dX4_scanWord_69 e7 ?_
    refine r_iload_n C dX4_scanWord_72 rfl ?_
    refine r_lload_n C dX4_scanWord_73 rfl ?_
    obtain ⟨h8, e9, hf0⟩ := ob hf0
    refine r_stJ C dX4_scanWord_74 e9 ?_
    refine r_iload C dX4_scanWord_75 rfl ?_
    refine r_bipush (v := 8) C dX4_scanWord_77 (by decide) ?_
    refine r_icmp_le (tgt := 85) C dX4_scanWord_79 (by decide) (fun c10 => ?_) (fun c10 => ?_)
    · rw [if_pos c10] at hf0
      refine r_iconst (v := 0) C dX4_scanWord_85 (by decide) ?_
      refine r_istore (lv' := [(5, .int (0 : Int32)), (0, .ref t2), (1, .int t3), (2, .long t4), (4, .int t5)]) C dX4_scanWord_86 (by decide) rfl rfl ?_
      obtain ⟨y11, hl88, hf0⟩ := ob hf0
      have L88 : ∀ (n : Nat) (t12 : Int32), whileL n (fun q : Int32 => f_X4_scanWord_b88 h8 t2 t4 q) t12 = some y11 → gW p l e (rmO 1 0 0) s m args below meth c (MQ below (eQ D cA B Hb out.2 (some (.int out.1))) args s 0 0 (fun q => B ≤ q)) D cA B Hb 6 h8 88 [(0, .ref t2), (2, .long t4), (5, .int t12)] [] 0 0 := by
        intro n
        induction n with
        | zero => intro t12 hz; cases hz
        | succ n ih88 =>
          intro t12 hz
          obtain ⟨x88, hf1, hk88⟩ := wl hz
          replace hf1 : f_X4_scanWord_b88 h8 t2 t4 t12 = some x88 := hf1
          unfold f_X4_scanWord_b88 at hf1
          refine r_iload C dX4_scanWord_88 rfl ?_
          refine r_bipush (v := 27) C dX4_scanWord_90 (by decide) ?_
          refine r_icmp_ge (tgt := 119) C dX4_scanWord_92 (by decide) (fun c13 => ?_) (fun c13 => ?_)
          · rw [if_pos c13] at hf1
            obtain rfl := so hf1
            obtain rfl := so (show some (.inr () : (Int32) ⊕ (Unit)) = some y11 from hk88)
            dsimp only at hf0
            refine r_bipush (v := 6) C dX4_scanWord_119 (by decide) ?_
            obtain rfl := so hf0
            exact r_iret C dX4_scanWord_121
          · rw [if_neg c13] at hf1
            refine r_aload_n C dX4_scanWord_95 rfl ?_
            obtain ⟨t14, e15, hf1⟩ := ob hf1
            refine r_getR C fk_X4_15 rfl dX4_scanWord_96 e15 ?_
            refine r_iload C dX4_scanWord_99 rfl ?_
            obtain ⟨t16, e17, hf1⟩ := ob hf1
            refine r_ldJ C dX4_scanWord_101 e17 ?_
            refine r_lload_n C dX4_scanWord_102 rfl ?_
            refine r_lcmp C dX4_scanWord_103 ?_
            refine r_ifne (tgt := 113) C dX4_scanWord_104 (by decide) (fun c18 => ?_) (fun c18 => ?_)
            · rw [if_neg c18] at hf1
              obtain ⟨t19, e20, hf1⟩ := ob hf1
              refine r_iinc (lv' := [(5, .int t19), (0, .ref t2), (2, .long t4)]) C dX4_scanWord_113 rfl e20 (by decide) rfl ?_
              refine r_goto (tgt := 88) C dX4_scanWord_116 (by decide) ?_
              obtain rfl := so hf1
              refine r_subk [1, 2, 0] (lv' := [(0, .ref t2), (2, .long t4), (5, .int t19)]) rfl ?_
              exact ih88 t19 hk88
            · rw [if_pos c18] at hf1
              obtain rfl := so hf1
              obtain rfl := so (show some (.inl t12 : (Int32) ⊕ (Unit)) = some y11 from hk88)
              dsimp only at hf0
              refine r_bipush (v := 8) C dX4_scanWord_107 (by decide) ?_
              refine r_iload C dX4_scanWord_109 rfl ?_
              refine r_iadd C dX4_scanWord_111 ?_
              obtain rfl := so hf0
              exact r_iret C dX4_scanWord_112
      refine r_subk [1, 3, 0] (lv' := [(0, .ref t2), (2, .long t4), (5, .int (0 : Int32))]) rfl ?_
      exact L88 wN (0 : Int32) hl88
    · rw [if_neg c10] at hf0
      refine r_bipush (v := 7) C dX4_scanWord_82 (by decide) ?_
      obtain rfl := so hf0
      exact r_iret C dX4_scanWord_84
  refine r_lconst (v := 0) C dX4_scanWord_0 (by decide) ?_
  refine r_lstore_n (lv' := [(2, .long (0 : Int64)), (0, .ref v0), (1, .int v1)]) C dX4_scanWord_1 (by decide) rfl rfl ?_
  refine r_iconst (v := 0) C dX4_scanWord_2 (by decide) ?_
  refine r_istore (lv' := [(4, .int (0 : Int32)), (2, .long (0 : Int64)), (0, .ref v0), (1, .int v1)]) C dX4_scanWord_3 (by decide) rfl rfl ?_
  obtain ⟨y21, y22, y23, hl5, hf0⟩ := ob3 hf0
  have L5 : ∀ (n : Nat) (t24 : Int64) (t25 : Int32) (h26 : aH), whileL n (fun q : Int64 × Int32 × aH => f_X4_scanWord_b5 v0 v1 q.1 q.2.1 q.2.2) (t24, t25, h26) = some (y21, y22, y23) → gW p l e (rmO 1 0 0) s m args below meth c (MQ below (eQ D cA B Hb out.2 (some (.int out.1))) args s 0 0 (fun q => B ≤ q)) D cA B Hb 6 h26 5 [(0, .ref v0), (1, .int v1), (2, .long t24), (4, .int t25)] [] 0 0 := by
    intro n
    induction n with
    | zero => intro t24 t25 h26 hz; cases hz
    | succ n ih5 =>
      intro t24 t25 h26 hz
      obtain ⟨x5, hf1, hk5⟩ := wl hz
      replace hf1 : f_X4_scanWord_b5 v0 v1 t24 t25 h26 = some x5 := hf1
      unfold f_X4_scanWord_b5 at hf1
      have J52 : ∀ (h27 : aH) (t28 : Int64) (t29 : Int32), f_X4_scanWord_j52 h27 v0 v1 t28 t29 = some x5 → gW p l e (rmO 1 0 0) s m args below meth c (MQ below (eQ D cA B Hb out.2 (some (.int out.1))) args s 0 0 (fun q => B ≤ q)) D cA B Hb 6 h27 52 [(0, .ref v0), (1, .int v1), (2, .long t28), (4, .int t29)] [] 0 0 := by
        intro h27 t28 t29 hf1
        unfold f_X4_scanWord_j52 at hf1
        obtain ⟨t30, e31, hf1⟩ := ob hf1
        refine r_iinc (lv' := [(4, .int t30), (0, .ref v0), (1, .int v1), (2, .long t28)]) C dX4_scanWord_52 rfl e31 (by decide) rfl ?_
        refine r_aload_n C dX4_scanWord_55 rfl ?_
        refine r_dup C dX4_scanWord_56 rfl ?_
        obtain ⟨t32, e33, hf1⟩ := ob hf1
        refine r_getI C fk_X4_39 rfl dX4_scanWord_57 e33 ?_
        refine r_iconst (v := 1) C dX4_scanWord_60 (by decide) ?_
        refine r_iadd C dX4_scanWord_61 ?_
        obtain ⟨h34, e35, hf1⟩ := ob hf1
        refine r_putI C fk_X4_39 dX4_scanWord_62 e35 ?_
        refine r_goto (tgt := 5) C dX4_scanWord_65 (by decide) ?_
        obtain rfl := so hf1
        refine r_subk [1, 2, 3, 0] (lv' := [(0, .ref v0), (1, .int v1), (2, .long t28), (4, .int t30)]) rfl ?_
        exact ih5 t28 t30 h34 hk5
      refine r_aload_n C dX4_scanWord_5 rfl ?_
      obtain ⟨t36, e37, hf1⟩ := ob hf1
      refine r_getI C fk_X4_39 rfl dX4_scanWord_6 e37 ?_
      refine r_aload_n C dX4_scanWord_9 rfl ?_
      obtain ⟨t38, e39, hf1⟩ := ob hf1
      refine r_getI C fk_X4_36 rfl dX4_scanWord_10 e39 ?_
      refine r_icmp_ge (tgt := 68) C dX4_scanWord_13 (by decide) (fun c40 => ?_) (fun c40 => ?_)
      · rw [if_pos c40] at hf1
        obtain rfl := so hf1
        obtain ⟨rfl, rfl, rfl⟩ := so3 (show some (t24, t25, h26) = some (y21, y22, y23) from hk5)
        exact J68 h26 v0 v1 t24 t25 hf0
      · rw [if_neg c40] at hf1
        refine r_aload_n C dX4_scanWord_16 rfl ?_
        obtain ⟨t41, e42, hf1⟩ := ob hf1
        refine r_getR C fk_X4_9 rfl dX4_scanWord_17 e42 ?_
        refine r_aload_n C dX4_scanWord_20 rfl ?_
        obtain ⟨t43, e44, hf1⟩ := ob hf1
        refine r_getI C fk_X4_39 rfl dX4_scanWord_21 e44 ?_
        obtain ⟨t45, e46, hf1⟩ := ob hf1
        refine r_ldB C dX4_scanWord_24 e46 ?_
        obtain ⟨t47, e48, hf1⟩ := ob hf1
        refine r_cS (rest := []) (st2 := [.int t47]) C (s_X4_isLetter e48) mk_X4_isLetter sm_X4_isLetter lk_X4_84 rfl rfl rfl dX4_scanWord_25 (Nat.le_of_ble_eq_true rfl) ⟨Nat.le_of_ble_eq_true rfl, Nat.le_of_ble_eq_true rfl⟩ ⟨Nat.le_of_ble_eq_true rfl, Nat.le_of_ble_eq_true rfl⟩ ?_
        refine r_ifeq (tgt := 68) C dX4_scanWord_28 (by decide) (fun c49 => ?_) (fun c49 => ?_)
        · rw [if_pos c49] at hf1
          obtain rfl := so hf1
          obtain ⟨rfl, rfl, rfl⟩ := so3 (show some (t24, t25, h26) = some (y21, y22, y23) from hk5)
          exact J68 h26 v0 v1 t24 t25 hf0
        · rw [if_neg c49] at hf1
          refine r_iload C dX4_scanWord_31 rfl ?_
          refine r_bipush (v := 8) C dX4_scanWord_33 (by decide) ?_
          refine r_icmp_ge (tgt := 52) C dX4_scanWord_35 (by decide) (fun c50 => ?_) (fun c50 => ?_)
          · rw [if_pos c50] at hf1
            exact J52 h26 t24 t25 hf1
          · rw [if_neg c50] at hf1
            refine r_lload_n C dX4_scanWord_38 rfl ?_
            refine r_aload_n C dX4_scanWord_39 rfl ?_
            obtain ⟨t51, e52, hf1⟩ := ob hf1
            refine r_getR C fk_X4_9 rfl dX4_scanWord_40 e52 ?_
            refine r_aload_n C dX4_scanWord_43 rfl ?_
            obtain ⟨t53, e54, hf1⟩ := ob hf1
            refine r_getI C fk_X4_39 rfl dX4_scanWord_44 e54 ?_
            obtain ⟨t55, e56, hf1⟩ := ob hf1
            refine r_ldB C dX4_scanWord_47 e56 ?_
            obtain ⟨t57, e58, hf1⟩ := ob hf1
            refine r_cS (rest := []) (st2 := [.long t57]) C (s_X4_withLetter e58) mk_X4_withLetter sm_X4_withLetter lk_X4_69 rfl rfl rfl dX4_scanWord_48 (Nat.le_of_ble_eq_true rfl) ⟨Nat.le_of_ble_eq_true rfl, Nat.le_of_ble_eq_true rfl⟩ ⟨Nat.le_of_ble_eq_true rfl, Nat.le_of_ble_eq_true rfl⟩ ?_
            refine r_lstore_n (lv' := [(2, .long t57), (0, .ref v0), (1, .int v1), (4, .int t25)]) C dX4_scanWord_51 (by decide) rfl rfl ?_
            refine r_subk [1, 2, 0, 3] (lv' := [(0, .ref v0), (1, .int v1), (2, .long t57), (4, .int t25)]) rfl ?_
            exact J52 h26 t57 t25 hf1
  refine r_subk [2, 3, 1, 0] (lv' := [(0, .ref v0), (1, .int v1), (2, .long (0 : Int64)), (4, .int (0 : Int32))]) rfl ?_
  exact L5 wN (0 : Int64) (0 : Int32) h hl5
def f_X4_isDigit (h : aH) (v0 : Int32) : Option (Int32) := if v0 < (48 : Int32) then some (0 : Int32) else if (57 : Int32) < v0 then some (0 : Int32) else some (1 : Int32)
theorem s_X4_isDigit {h : aH} {v0 : Int32} {out : Int32} (hf0 : f_X4_isDigit h v0 = some out) : EV 0 yX4_isDigit cX4_isDigit 1 (some .boolean) h [.int v0] (some (.int out)) h 0 0 := by
  refine EV.of (own := RX4) (lv0 := [(0, .int v0)]) (by decide +kernel) rfl rfl (Nat.le_of_ble_eq_true rfl) ?_
  intro p l e s m args below meth c D cA B Hb C hin
  unfold f_X4_isDigit at hf0
  refine r_iload_n C dX4_isDigit_0 rfl ?_
  refine r_bipush (v := 48) C dX4_isDigit_1 (by decide) ?_
  refine r_icmp_lt (tgt := 16) C dX4_isDigit_3 (by decide) (fun c1 => ?_) (fun c1 => ?_)
  · rw [if_pos c1] at hf0
    refine r_iconst (v := 0) C dX4_isDigit_16 (by decide) ?_
    obtain rfl := so hf0
    exact r_zret C dX4_isDigit_17 (Or.inl rfl)
  · rw [if_neg c1] at hf0
    refine r_iload_n C dX4_isDigit_6 rfl ?_
    refine r_bipush (v := 57) C dX4_isDigit_7 (by decide) ?_
    refine r_icmp_gt (tgt := 16) C dX4_isDigit_9 (by decide) (fun c2 => ?_) (fun c2 => ?_)
    · rw [if_pos c2] at hf0
      refine r_iconst (v := 0) C dX4_isDigit_16 (by decide) ?_
      obtain rfl := so hf0
      exact r_zret C dX4_isDigit_17 (Or.inl rfl)
    · rw [if_neg c2] at hf0
      refine r_iconst (v := 1) C dX4_isDigit_12 (by decide) ?_
      refine r_goto (tgt := 17) C dX4_isDigit_13 (by decide) ?_
      obtain rfl := so hf0
      exact r_zret C dX4_isDigit_17 (Or.inr rfl)
