def f_X1_valueIn (h : aH) (v0 : Nat) (v1 : Int32) (v2 : Int32) : Option (Int32) := (gR h 1 v0 1).bind fun t1 => (lI h t1 (v2 + (1 : Int32))).bind fun t2 => (gR h 1 v0 1).bind fun t3 => (lI h t3 v2).bind fun t4 => (some (t2 - t4)).bind fun t5 => (gR h 1 v0 2).bind fun t6 => (lI h t6 v2).bind fun t7 => if t7 < (1 : Int32) then some (-1 : Int32) else if (1 : Int32) ≤ t5 then (gR h 1 v0 1).bind fun t8 => (lI h t8 v2).bind fun t9 => (gR h 1 v0 2).bind fun t10 => (lI h t10 v2).bind fun t11 => (nz t11).bind fun _ => (nz t5).bind fun _ => some (t9 + ((v1 / t11) - (v1 / t11) / t5 * t5)) else some (-1 : Int32)
theorem s_X1_valueIn {h : aH} {v0 : Nat} {v1 : Int32} {v2 : Int32} {out : Int32} (hf0 : f_X1_valueIn h v0 v1 v2 = some out) : EV 0 yX1_valueIn cX1_valueIn 4 (some .int) h [.ref v0, .int v1, .int v2] (some (.int out)) h 0 0 := by
  refine EV.of (own := RX1) (lv0 := [(0, .ref v0), (1, .int v1), (2, .int v2)]) (by decide) rfl rfl (Nat.le_of_ble_eq_true rfl) ?_
  intro p l e s m args below meth c D cA B Hb C hin
  unfold f_X1_valueIn at hf0
  refine r_aload_n C dX1_valueIn_0 rfl ?_
  obtain ⟨t1, e2, hf0⟩ := ob hf0
  refine r_getR C fk_X1_18 rfl dX1_valueIn_1 e2 ?_
  refine r_iload_n C dX1_valueIn_4 rfl ?_
  refine r_iconst (v := 1) C dX1_valueIn_5 (by decide) ?_
  refine r_iadd C dX1_valueIn_6 ?_
  obtain ⟨t3, e4, hf0⟩ := ob hf0
  refine r_ldI C dX1_valueIn_7 e4 ?_
  refine r_aload_n C dX1_valueIn_8 rfl ?_
  obtain ⟨t5, e6, hf0⟩ := ob hf0
  refine r_getR C fk_X1_18 rfl dX1_valueIn_9 e6 ?_
  refine r_iload_n C dX1_valueIn_12 rfl ?_
  obtain ⟨t7, e8, hf0⟩ := ob hf0
  refine r_ldI C dX1_valueIn_13 e8 ?_
  refine r_isub C dX1_valueIn_14 ?_
  obtain ⟨t9, e10, hf0⟩ := ob hf0
  refine r_istore_n (lv' := [(3, .int t9), (0, .ref v0), (1, .int v1), (2, .int v2)]) C dX1_valueIn_15 (by decide) e10 rfl ?_
  refine r_aload_n C dX1_valueIn_16 rfl ?_
  obtain ⟨t11, e12, hf0⟩ := ob hf0
  refine r_getR C fk_X1_22 rfl dX1_valueIn_17 e12 ?_
  refine r_iload_n C dX1_valueIn_20 rfl ?_
  obtain ⟨t13, e14, hf0⟩ := ob hf0
  refine r_ldI C dX1_valueIn_21 e14 ?_
  refine r_iconst (v := 1) C dX1_valueIn_22 (by decide) ?_
  refine r_icmp_lt (tgt := 31) C dX1_valueIn_23 (by decide) (fun c15 => ?_) (fun c15 => ?_)
  · rw [if_pos c15] at hf0
    refine r_iconst (v := -1) C dX1_valueIn_31 (by decide) ?_
    obtain rfl := so hf0
    exact r_iret C dX1_valueIn_32
  · rw [if_neg c15] at hf0
    refine r_iload_n C dX1_valueIn_26 rfl ?_
    refine r_iconst (v := 1) C dX1_valueIn_27 (by decide) ?_
    refine r_icmp_ge (tgt := 33) C dX1_valueIn_28 (by decide) (fun c16 => ?_) (fun c16 => ?_)
    · rw [if_pos c16] at hf0
      refine r_aload_n C dX1_valueIn_33 rfl ?_
      obtain ⟨t17, e18, hf0⟩ := ob hf0
      refine r_getR C fk_X1_18 rfl dX1_valueIn_34 e18 ?_
      refine r_iload_n C dX1_valueIn_37 rfl ?_
      obtain ⟨t19, e20, hf0⟩ := ob hf0
      refine r_ldI C dX1_valueIn_38 e20 ?_
      refine r_iload_n C dX1_valueIn_39 rfl ?_
      refine r_aload_n C dX1_valueIn_40 rfl ?_
      obtain ⟨t21, e22, hf0⟩ := ob hf0
      refine r_getR C fk_X1_22 rfl dX1_valueIn_41 e22 ?_
      refine r_iload_n C dX1_valueIn_44 rfl ?_
      obtain ⟨t23, e24, hf0⟩ := ob hf0
      refine r_ldI C dX1_valueIn_45 e24 ?_
      obtain ⟨u26, e25, hf0⟩ := ob hf0
      refine r_idiv C dX1_valueIn_46 (nz_k e25) ?_
      refine r_iload_n C dX1_valueIn_47 rfl ?_
      obtain ⟨u28, e27, hf0⟩ := ob hf0
      refine r_irem C dX1_valueIn_48 (nz_k e27) ?_
      refine r_iadd C dX1_valueIn_49 ?_
      obtain rfl := so hf0
      exact r_iret C dX1_valueIn_50
    · rw [if_neg c16] at hf0
      refine r_iconst (v := -1) C dX1_valueIn_31 (by decide) ?_
      obtain rfl := so hf0
      exact r_iret C dX1_valueIn_32
def f_X1_canBe (h : aH) (v0 : Nat) (v1 : Int32) : Option (Int32) := (gR h 1 v0 5).bind fun t1 => (lI h t1 v1).bind fun t2 => if t2 ≤ 0 then some (0 : Int32) else some (1 : Int32)
theorem s_X1_canBe {h : aH} {v0 : Nat} {v1 : Int32} {out : Int32} (hf0 : f_X1_canBe h v0 v1 = some out) : EV 0 yX1_canBe cX1_canBe 2 (some .boolean) h [.ref v0, .int v1] (some (.int out)) h 0 0 := by
  refine EV.of (own := RX1) (lv0 := [(0, .ref v0), (1, .int v1)]) (by decide) rfl rfl (Nat.le_of_ble_eq_true rfl) ?_
  intro p l e s m args below meth c D cA B Hb C hin
  unfold f_X1_canBe at hf0
  refine r_aload_n C dX1_canBe_0 rfl ?_
  obtain ⟨t1, e2, hf0⟩ := ob hf0
  refine r_getR C fk_X1_31 rfl dX1_canBe_1 e2 ?_
  refine r_iload_n C dX1_canBe_4 rfl ?_
  obtain ⟨t3, e4, hf0⟩ := ob hf0
  refine r_ldI C dX1_canBe_5 e4 ?_
  refine r_ifle (tgt := 13) C dX1_canBe_6 (by decide) (fun c5 => ?_) (fun c5 => ?_)
  · rw [if_pos c5] at hf0
    refine r_iconst (v := 0) C dX1_canBe_13 (by decide) ?_
    obtain rfl := so hf0
    exact r_zret C dX1_canBe_14 (by decide)
  · rw [if_neg c5] at hf0
    refine r_iconst (v := 1) C dX1_canBe_9 (by decide) ?_
    refine r_goto (tgt := 14) C dX1_canBe_10 (by decide) ?_
    obtain rfl := so hf0
    exact r_zret C dX1_canBe_14 (by decide)
def f_X1_packedAnswers (h : aH) (v0 : Nat) (v1 : Int32) (v2 : Int32) (v3 : Int32) : Option (Int32) := (gR h 1 v0 11).bind fun t1 => (lI h t1 ((((v1 * (12 : Int32)) + v2) * (256 : Int32)) + v3)).bind fun t2 => some t2
theorem s_X1_packedAnswers {h : aH} {v0 : Nat} {v1 : Int32} {v2 : Int32} {v3 : Int32} {out : Int32} (hf0 : f_X1_packedAnswers h v0 v1 v2 v3 = some out) : EV 0 yX1_packedAnswers cX1_packedAnswers 4 (some .int) h [.ref v0, .int v1, .int v2, .int v3] (some (.int out)) h 0 0 := by
  refine EV.of (own := RX1) (lv0 := [(0, .ref v0), (1, .int v1), (2, .int v2), (3, .int v3)]) (by decide) rfl rfl (Nat.le_of_ble_eq_true rfl) ?_
  intro p l e s m args below meth c D cA B Hb C hin
  unfold f_X1_packedAnswers at hf0
  refine r_aload_n C dX1_packedAnswers_0 rfl ?_
  obtain ⟨t1, e2, hf0⟩ := ob hf0
  refine r_getR C fk_X1_49 rfl dX1_packedAnswers_1 e2 ?_
  refine r_iload_n C dX1_packedAnswers_4 rfl ?_
  refine r_bipush (v := 12) C dX1_packedAnswers_5 (by decide) ?_
  refine r_imul C dX1_packedAnswers_7 ?_
  refine r_iload_n C dX1_packedAnswers_8 rfl ?_
  refine r_iadd C dX1_packedAnswers_9 ?_
  refine r_sipush (v := 256) C dX1_packedAnswers_10 (by decide) ?_
  refine r_imul C dX1_packedAnswers_13 ?_
  refine r_iload_n C dX1_packedAnswers_14 rfl ?_
  refine r_iadd C dX1_packedAnswers_15 ?_
  obtain ⟨t3, e4, hf0⟩ := ob hf0
  refine r_ldI C dX1_packedAnswers_16 e4 ?_
  obtain rfl := so hf0
  exact r_iret C dX1_packedAnswers_17
def f_X1_kindsAnswering_j28 (h : aH) (v1 : Int32) (v2 : Int32) (v3 : Int32) (v4 : Int32) : Option ((Int32 × Int32 × Int32) ⊕ (Int32)) := (some (v3 >>> ((5 : Int32) &&& 31))).bind fun t1 => (some (v4 + (1 : Int32))).bind fun t2 => some (.inl (v2, t1, t2))
def f_X1_kindsAnswering_b7 (h : aH) (v1 : Int32) (v2 : Int32) (v3 : Int32) (v4 : Int32) : Option ((Int32 × Int32 × Int32) ⊕ (Int32)) := if (4 : Int32) ≤ v4 then some (.inr v2) else if (v3 &&& (31 : Int32)) = v1 then (some (v2 ||| ((1 : Int32) <<< (v4 &&& 31)))).bind fun t3 => f_X1_kindsAnswering_j28 h v1 t3 v3 v4 else f_X1_kindsAnswering_j28 h v1 v2 v3 v4
def f_X1_kindsAnswering_l7 (h : aH) (v1 : Int32) (v2 : Int32) (v3 : Int32) (v4 : Int32) : Option (Int32) := whileL wN (fun q : Int32 × Int32 × Int32 => f_X1_kindsAnswering_b7 h v1 q.1 q.2.1 q.2.2) (v2, v3, v4)
def f_X1_kindsAnswering (h : aH) (v0 : Int32) (v1 : Int32) : Option (Int32) := (f_X1_kindsAnswering_l7 h v1 (0 : Int32) v0 (0 : Int32)).bind fun t4 => some t4
theorem s_X1_kindsAnswering {h : aH} {v0 : Int32} {v1 : Int32} {out : Int32} (hf0 : f_X1_kindsAnswering h v0 v1 = some out) : EV 0 yX1_kindsAnswering cX1_kindsAnswering 5 (some .int) h [.int v0, .int v1] (some (.int out)) h 0 0 := by
  refine EV.of (own := RX1) (lv0 := [(0, .int v0), (1, .int v1)]) (by decide) rfl rfl (Nat.le_of_ble_eq_true rfl) ?_
  intro p l e s m args below meth c D cA B Hb C hin
  unfold f_X1_kindsAnswering at hf0
  refine r_iconst (v := 0) C dX1_kindsAnswering_0 (by decide) ?_
  refine r_istore_n (lv' := [(2, .int (0 : Int32)), (0, .int v0), (1, .int v1)]) C dX1_kindsAnswering_1 (by decide) rfl rfl ?_
  refine r_iload_n C dX1_kindsAnswering_2 rfl ?_
  refine r_istore_n (lv' := [(3, .int v0), (2, .int (0 : Int32)), (0, .int v0), (1, .int v1)]) C dX1_kindsAnswering_3 (by decide) rfl rfl ?_
  refine r_iconst (v := 0) C dX1_kindsAnswering_4 (by decide) ?_
  refine r_istore (lv' := [(4, .int (0 : Int32)), (3, .int v0), (2, .int (0 : Int32)), (0, .int v0), (1, .int v1)]) C dX1_kindsAnswering_5 (by decide) rfl rfl ?_
  obtain ⟨y1, hl7, hf0⟩ := ob hf0
  have L7 : ∀ (n : Nat) (t2 : Int32) (t3 : Int32) (t4 : Int32), whileL n (fun q : Int32 × Int32 × Int32 => f_X1_kindsAnswering_b7 h v1 q.1 q.2.1 q.2.2) (t2, t3, t4) = some y1 → gW p l e (rmO 0 0 0) s m args below meth c (MQ below (eQ D cA B Hb h (some (.int out))) args s 0 0 (fun q => B ≤ q)) D cA B Hb 5 h 7 [(1, .int v1), (2, .int t2), (3, .int t3), (4, .int t4)] [] 0 0 := by
    intro n
    induction n with
    | zero => intro t2 t3 t4 hz; cases hz
    | succ n ih7 =>
      intro t2 t3 t4 hz
      obtain ⟨x7, hf1, hk7⟩ := wl hz
      replace hf1 : f_X1_kindsAnswering_b7 h v1 t2 t3 t4 = some x7 := hf1
      unfold f_X1_kindsAnswering_b7 at hf1
      have J28 : ∀ (t5 : Int32) (t6 : Int32) (t7 : Int32), f_X1_kindsAnswering_j28 h v1 t5 t6 t7 = some x7 → gW p l e (rmO 0 0 0) s m args below meth c (MQ below (eQ D cA B Hb h (some (.int out))) args s 0 0 (fun q => B ≤ q)) D cA B Hb 5 h 28 [(1, .int v1), (2, .int t5), (3, .int t6), (4, .int t7)] [] 0 0 := by
        intro t5 t6 t7 hf1
        unfold f_X1_kindsAnswering_j28 at hf1
        refine r_iload_n C dX1_kindsAnswering_28 rfl ?_
        refine r_iconst (v := 5) C dX1_kindsAnswering_29 (by decide) ?_
        refine r_ishr C dX1_kindsAnswering_30 ?_
        obtain ⟨t8, e9, hf1⟩ := ob hf1
        refine r_istore_n (lv' := [(3, .int t8), (1, .int v1), (2, .int t5), (4, .int t7)]) C dX1_kindsAnswering_31 (by decide) e9 rfl ?_
        obtain ⟨t10, e11, hf1⟩ := ob hf1
        refine r_iinc (lv' := [(4, .int t10), (3, .int t8), (1, .int v1), (2, .int t5)]) C dX1_kindsAnswering_32 rfl e11 (by decide) rfl ?_
        refine r_goto (tgt := 7) C dX1_kindsAnswering_35 (by decide) ?_
        obtain rfl := so hf1
        refine r_subk [2, 3, 1, 0] (lv' := [(1, .int v1), (2, .int t5), (3, .int t8), (4, .int t10)]) rfl ?_
        exact ih7 t5 t8 t10 hk7
      refine r_iload C dX1_kindsAnswering_7 rfl ?_
      refine r_iconst (v := 4) C dX1_kindsAnswering_9 (by decide) ?_
      refine r_icmp_ge (tgt := 38) C dX1_kindsAnswering_10 (by decide) (fun c12 => ?_) (fun c12 => ?_)
      · rw [if_pos c12] at hf1
        obtain rfl := so hf1
        obtain rfl := so (show some t2 = some y1 from hk7)
        refine r_iload_n C dX1_kindsAnswering_38 rfl ?_
        obtain rfl := so hf0
        exact r_iret C dX1_kindsAnswering_39
      · rw [if_neg c12] at hf1
        refine r_iload_n C dX1_kindsAnswering_13 rfl ?_
        refine r_bipush (v := 31) C dX1_kindsAnswering_14 (by decide) ?_
        refine r_iand C dX1_kindsAnswering_16 ?_
        refine r_iload_n C dX1_kindsAnswering_17 rfl ?_
        refine r_icmp_ne (tgt := 28) C dX1_kindsAnswering_18 (by decide) (fun c13 => ?_) (fun c13 => ?_)
        · rw [if_neg c13] at hf1
          exact J28 t2 t3 t4 hf1
        · rw [if_pos c13] at hf1
          refine r_iload_n C dX1_kindsAnswering_21 rfl ?_
          refine r_iconst (v := 1) C dX1_kindsAnswering_22 (by decide) ?_
          refine r_iload C dX1_kindsAnswering_23 rfl ?_
          refine r_ishl C dX1_kindsAnswering_25 ?_
          refine r_ior C dX1_kindsAnswering_26 ?_
          obtain ⟨t14, e15, hf1⟩ := ob hf1
          refine r_istore_n (lv' := [(2, .int t14), (1, .int v1), (3, .int t3), (4, .int t4)]) C dX1_kindsAnswering_27 (by decide) e15 rfl ?_
          refine r_subk [1, 0, 2, 3] (lv' := [(1, .int v1), (2, .int t14), (3, .int t3), (4, .int t4)]) rfl ?_
          exact J28 t14 t3 t4 hf1
  refine r_subk [4, 2, 1, 0] (lv' := [(1, .int v1), (2, .int (0 : Int32)), (3, .int v0), (4, .int (0 : Int32))]) rfl ?_
  exact L7 wN (0 : Int32) v0 (0 : Int32) hl7
def f_X3_agreeing (h : aH) (v0 : Nat) (v1 : Int32) (v2 : Int32) : Option (Int32) := (gR h 3 v0 0).bind fun t1 => (gR h 6 t1 0).bind fun t2 => (lI h t2 v1).bind fun t3 => (some (t3 * (4 : Int32))).bind fun t4 => (gR h 3 v0 4).bind fun t5 => (gR h 3 v0 0).bind fun t6 => (gR h 6 t6 0).bind fun t7 => (lI h t7 v1).bind fun t8 => (gR h 3 v0 0).bind fun t9 => (gR h 6 t9 1).bind fun t10 => (lI h t10 v1).bind fun t11 => (ck h 1 t5).bind fun _ => (f_X1_packedAnswers h t5 t8 t11 v2).bind fun t12 => (gR h 3 v0 0).bind fun t13 => (gR h 6 t13 2).bind fun t14 => (lI h t14 v1).bind fun t15 => (f_X1_kindsAnswering h t12 t15).bind fun t16 => some (((65535 : Int32) &&& (((15 : Int32) <<< (t4 &&& 31)) ^^^ (-1 : Int32))) ||| (t16 <<< (t4 &&& 31)))
theorem s_X3_agreeing {h : aH} {v0 : Nat} {v1 : Int32} {v2 : Int32} {out : Int32} (hf0 : f_X3_agreeing h v0 v1 v2 = some out) : EV 1 yX3_agreeing cX3_agreeing 6 (some .int) h [.ref v0, .int v1, .int v2] (some (.int out)) h 0 0 := by
  refine EV.of (own := RX3) (lv0 := [(0, .ref v0), (1, .int v1), (2, .int v2)]) (by decide) rfl rfl (Nat.le_of_ble_eq_true rfl) ?_
  intro p l e s m args below meth c D cA B Hb C hin
  unfold f_X3_agreeing at hf0
  refine r_aload_n C dX3_agreeing_0 rfl ?_
  obtain ⟨t1, e2, hf0⟩ := ob hf0
  refine r_getR C fk_X3_12 rfl dX3_agreeing_1 e2 ?_
  obtain ⟨t3, e4, hf0⟩ := ob hf0
  refine r_getR C fk_X3_77 rfl dX3_agreeing_4 e4 ?_
  refine r_iload_n C dX3_agreeing_7 rfl ?_
  obtain ⟨t5, e6, hf0⟩ := ob hf0
  refine r_ldI C dX3_agreeing_8 e6 ?_
  refine r_iconst (v := 4) C dX3_agreeing_9 (by decide) ?_
  refine r_imul C dX3_agreeing_10 ?_
  obtain ⟨t7, e8, hf0⟩ := ob hf0
  refine r_istore_n (lv' := [(3, .int t7), (0, .ref v0), (1, .int v1), (2, .int v2)]) C dX3_agreeing_11 (by decide) e8 rfl ?_
  refine r_aload_n C dX3_agreeing_12 rfl ?_
  obtain ⟨t9, e10, hf0⟩ := ob hf0
  refine r_getR C fk_X3_35 rfl dX3_agreeing_13 e10 ?_
  refine r_aload_n C dX3_agreeing_16 rfl ?_
  obtain ⟨t11, e12, hf0⟩ := ob hf0
  refine r_getR C fk_X3_12 rfl dX3_agreeing_17 e12 ?_
  obtain ⟨t13, e14, hf0⟩ := ob hf0
  refine r_getR C fk_X3_77 rfl dX3_agreeing_20 e14 ?_
  refine r_iload_n C dX3_agreeing_23 rfl ?_
  obtain ⟨t15, e16, hf0⟩ := ob hf0
  refine r_ldI C dX3_agreeing_24 e16 ?_
  refine r_aload_n C dX3_agreeing_25 rfl ?_
  obtain ⟨t17, e18, hf0⟩ := ob hf0
  refine r_getR C fk_X3_12 rfl dX3_agreeing_26 e18 ?_
  obtain ⟨t19, e20, hf0⟩ := ob hf0
  refine r_getR C fk_X3_70 rfl dX3_agreeing_29 e20 ?_
  refine r_iload_n C dX3_agreeing_32 rfl ?_
  obtain ⟨t21, e22, hf0⟩ := ob hf0
  refine r_ldI C dX3_agreeing_33 e22 ?_
  refine r_iload_n C dX3_agreeing_34 rfl ?_
  obtain ⟨u24, e23, hf0⟩ := ob hf0
  obtain ⟨t25, e26, hf0⟩ := ob hf0
  refine r_cV (ci := 1) (rest := []) (st2 := [.int t25]) C (s_X1_packedAnswers e26) mk_X1_packedAnswers rfl (ck_k e23) (by decide) im_X1_packedAnswers sl_X1_packedAnswers lk_X3_83 rfl rfl rfl dX3_agreeing_35 (Nat.le_of_ble_eq_true rfl) ⟨Nat.le_of_ble_eq_true rfl, Nat.le_of_ble_eq_true rfl⟩ ⟨Nat.le_of_ble_eq_true rfl, Nat.le_of_ble_eq_true rfl⟩ ?_
  refine r_istore (lv' := [(4, .int t25), (3, .int t7), (0, .ref v0), (1, .int v1), (2, .int v2)]) C dX3_agreeing_38 (by decide) rfl rfl ?_
  refine r_iload C dX3_agreeing_40 rfl ?_
  refine r_aload_n C dX3_agreeing_42 rfl ?_
  obtain ⟨t27, e28, hf0⟩ := ob hf0
  refine r_getR C fk_X3_12 rfl dX3_agreeing_43 e28 ?_
  obtain ⟨t29, e30, hf0⟩ := ob hf0
  refine r_getR C fk_X3_87 rfl dX3_agreeing_46 e30 ?_
  refine r_iload_n C dX3_agreeing_49 rfl ?_
  obtain ⟨t31, e32, hf0⟩ := ob hf0
  refine r_ldI C dX3_agreeing_50 e32 ?_
  obtain ⟨t33, e34, hf0⟩ := ob hf0
  refine r_cS (rest := []) (st2 := [.int t33]) C (s_X1_kindsAnswering e34) mk_X1_kindsAnswering sm_X1_kindsAnswering lk_X3_90 rfl rfl rfl dX3_agreeing_51 (Nat.le_of_ble_eq_true rfl) ⟨Nat.le_of_ble_eq_true rfl, Nat.le_of_ble_eq_true rfl⟩ ⟨Nat.le_of_ble_eq_true rfl, Nat.le_of_ble_eq_true rfl⟩ ?_
  refine r_istore (lv' := [(5, .int t33), (4, .int t25), (3, .int t7), (0, .ref v0), (1, .int v1), (2, .int v2)]) C dX3_agreeing_54 (by decide) rfl rfl ?_
  refine r_ldc (v := 65535) C dX3_agreeing_56 cn_X3_65 ?_
  refine r_bipush (v := 15) C dX3_agreeing_58 (by decide) ?_
  refine r_iload_n C dX3_agreeing_60 rfl ?_
  refine r_ishl C dX3_agreeing_61 ?_
  refine r_iconst (v := -1) C dX3_agreeing_62 (by decide) ?_
  refine r_ixor C dX3_agreeing_63 ?_
  refine r_iand C dX3_agreeing_64 ?_
  refine r_iload C dX3_agreeing_65 rfl ?_
  refine r_iload_n C dX3_agreeing_67 rfl ?_
  refine r_ishl C dX3_agreeing_68 ?_
  refine r_ior C dX3_agreeing_69 ?_
  obtain rfl := so hf0
  exact r_iret C dX3_agreeing_70
def f_X3_kindsLeft (h : aH) (v0 : Nat) (v1 : Int32) (v2 : Int32) : Option (Int32) := (gR h 3 v0 1).bind fun t1 => (lI h t1 v2).bind fun t2 => (gR h 3 v0 4).bind fun t3 => (gI h 1 t3 18).bind fun t4 => some (((t2 &&& t4) >>> ((v1 * (4 : Int32)) &&& 31)) &&& (15 : Int32))
theorem s_X3_kindsLeft {h : aH} {v0 : Nat} {v1 : Int32} {v2 : Int32} {out : Int32} (hf0 : f_X3_kindsLeft h v0 v1 v2 = some out) : EV 0 yX3_kindsLeft cX3_kindsLeft 3 (some .int) h [.ref v0, .int v1, .int v2] (some (.int out)) h 0 0 := by
  refine EV.of (own := RX3) (lv0 := [(0, .ref v0), (1, .int v1), (2, .int v2)]) (by decide) rfl rfl (Nat.le_of_ble_eq_true rfl) ?_
  intro p l e s m args below meth c D cA B Hb C hin
  unfold f_X3_kindsLeft at hf0
  refine r_aload_n C dX3_kindsLeft_0 rfl ?_
  obtain ⟨t1, e2, hf0⟩ := ob hf0
  refine r_getR C fk_X3_18 rfl dX3_kindsLeft_1 e2 ?_
  refine r_iload_n C dX3_kindsLeft_4 rfl ?_
  obtain ⟨t3, e4, hf0⟩ := ob hf0
  refine r_ldI C dX3_kindsLeft_5 e4 ?_
  refine r_aload_n C dX3_kindsLeft_6 rfl ?_
  obtain ⟨t5, e6, hf0⟩ := ob hf0
  refine r_getR C fk_X3_35 rfl dX3_kindsLeft_7 e6 ?_
  obtain ⟨t7, e8, hf0⟩ := ob hf0
  refine r_getI C fk_X3_93 rfl dX3_kindsLeft_10 e8 ?_
  refine r_iand C dX3_kindsLeft_13 ?_
  refine r_iload_n C dX3_kindsLeft_14 rfl ?_
  refine r_iconst (v := 4) C dX3_kindsLeft_15 (by decide) ?_
  refine r_imul C dX3_kindsLeft_16 ?_
  refine r_ishr C dX3_kindsLeft_17 ?_
  refine r_bipush (v := 15) C dX3_kindsLeft_18 (by decide) ?_
  refine r_iand C dX3_kindsLeft_20 ?_
  obtain rfl := so hf0
  exact r_iret C dX3_kindsLeft_21
def f_X3_narrow_j59 (h : aH) (v0 : Nat) (v1 : Int32) (v2 : Int32) : Option ((Int32 × aH) ⊕ (aH)) := (some (v2 + (1 : Int32))).bind fun t6 => some (.inl (t6, h))
def f_X3_narrow_b22 (v0 : Nat) (v1 : Int32) (v2 : Int32) (h : aH) : Option ((Int32 × aH) ⊕ (aH)) := (gR h 3 v0 4).bind fun t7 => (gI h 1 t7 14).bind fun t8 => if t8 ≤ v2 then some (.inr h) else (gR h 3 v0 4).bind fun t9 => (ck h 1 t9).bind fun _ => (f_X1_canBe h t9 v2).bind fun t10 => if t10 = 0 then f_X3_narrow_j59 h v0 v1 v2 else (gR h 3 v0 1).bind fun t11 => (lI h t11 v2).bind fun t12 => (ck h 3 v0).bind fun _ => (f_X3_agreeing h v0 v1 v2).bind fun t13 => (sI h t11 v2 (t12 &&& t13)).bind fun h14 => f_X3_narrow_j59 h14 v0 v1 v2
def f_X3_narrow_l22 (v0 : Nat) (v1 : Int32) (v2 : Int32) (h : aH) : Option (aH) := whileL wN (fun q : Int32 × aH => f_X3_narrow_b22 v0 v1 q.1 q.2) (v2, h)
def f_X3_narrow_j114 (h : aH) (v0 : Nat) (v1 : Int32) (v2 : Int32) (v3 : Int32) : Option ((Int32 × Int32 × aH) ⊕ (Int32 × aH)) := (some (v3 + (1 : Int32))).bind fun t16 => some (.inl (v2, t16, h))
def f_X3_narrow_b69 (v0 : Nat) (v1 : Int32) (v2 : Int32) (v3 : Int32) (h : aH) : Option ((Int32 × Int32 × aH) ⊕ (Int32 × aH)) := (gI h 3 v0 5).bind fun t17 => if t17 ≤ v3 then some (.inr (v2, h)) else (gR h 3 v0 0).bind fun t18 => (gR h 6 t18 0).bind fun t19 => (lI h t19 v1).bind fun t20 => (gR h 3 v0 2).bind fun t21 => (lI h t21 v3).bind fun t22 => (ck h 3 v0).bind fun _ => (f_X3_kindsLeft h v0 t20 t22).bind fun t23 => if t23 = 0 then f_X3_narrow_j114 h v0 v1 v2 v3 else (gR h 3 v0 2).bind fun t24 => (gR h 3 v0 2).bind fun t25 => (lI h t25 v3).bind fun t26 => (sI h t24 v2 t26).bind fun h27 => (some (v2 + (1 : Int32))).bind fun t28 => f_X3_narrow_j114 h27 v0 v1 t28 v3
def f_X3_narrow_l69 (v0 : Nat) (v1 : Int32) (v2 : Int32) (v3 : Int32) (h : aH) : Option (Int32 × aH) := whileL wN (fun q : Int32 × Int32 × aH => f_X3_narrow_b69 v0 v1 q.1 q.2.1 q.2.2) (v2, v3, h)
def f_X3_narrow (h : aH) (v0 : Nat) (v1 : Int32) : Option (aH) := (gI h 3 v0 6).bind fun t1 => (gR h 3 v0 0).bind fun t2 => (gR h 6 t2 1).bind fun t3 => (lI h t3 v1).bind fun t4 => (pI h 3 v0 6 (t1 ||| ((1 : Int32) <<< (t4 &&& 31)))).bind fun h5 => (f_X3_narrow_l22 v0 v1 (0 : Int32) h5).bind fun h15 => bd2 (f_X3_narrow_l69 v0 v1 (0 : Int32) (0 : Int32) h15) fun t29 h30 => (pI h30 3 v0 5 t29).bind fun h31 => some h31
theorem s_X3_narrow {h : aH} {v0 : Nat} {v1 : Int32} {out : aH} (hf0 : f_X3_narrow h v0 v1 = some out) : EV 2 yX3_narrow cX3_narrow 4 none h [.ref v0, .int v1] none out 0 0 := by
  refine EV.of (own := RX3) (lv0 := [(0, .ref v0), (1, .int v1)]) (by decide) rfl rfl (Nat.le_of_ble_eq_true rfl) ?_
  intro p l e s m args below meth c D cA B Hb C hin
  unfold f_X3_narrow at hf0
  refine r_aload_n C dX3_narrow_0 rfl ?_
  refine r_dup C dX3_narrow_1 rfl ?_
  obtain ⟨t1, e2, hf0⟩ := ob hf0
  refine r_getI C fk_X3_32 rfl dX3_narrow_2 e2 ?_
  refine r_iconst (v := 1) C dX3_narrow_5 (by decide) ?_
  refine r_aload_n C dX3_narrow_6 rfl ?_
  obtain ⟨t3, e4, hf0⟩ := ob hf0
  refine r_getR C fk_X3_12 rfl dX3_narrow_7 e4 ?_
  obtain ⟨t5, e6, hf0⟩ := ob hf0
  refine r_getR C fk_X3_70 rfl dX3_narrow_10 e6 ?_
  refine r_iload_n C dX3_narrow_13 rfl ?_
  obtain ⟨t7, e8, hf0⟩ := ob hf0
  refine r_ldI C dX3_narrow_14 e8 ?_
  refine r_ishl C dX3_narrow_15 ?_
  refine r_ior C dX3_narrow_16 ?_
  obtain ⟨h9, e10, hf0⟩ := ob hf0
  refine r_putI C fk_X3_32 dX3_narrow_17 e10 ?_
  refine r_iconst (v := 0) C dX3_narrow_20 (by decide) ?_
  refine r_istore_n (lv' := [(2, .int (0 : Int32)), (0, .ref v0), (1, .int v1)]) C dX3_narrow_21 (by decide) rfl rfl ?_
  obtain ⟨y11, hl22, hf0⟩ := ob hf0
  have L22 : ∀ (n : Nat) (t12 : Int32) (h13 : aH), whileL n (fun q : Int32 × aH => f_X3_narrow_b22 v0 v1 q.1 q.2) (t12, h13) = some y11 → gW p l e (rmO 2 0 0) s m args below meth c (MQ below (eQ D cA B Hb out none) args s 0 0 (fun q => B ≤ q)) D cA B Hb 4 h13 22 [(0, .ref v0), (1, .int v1), (2, .int t12)] [] 0 0 := by
    intro n
    induction n with
    | zero => intro t12 h13 hz; cases hz
    | succ n ih22 =>
      intro t12 h13 hz
      obtain ⟨x22, hf1, hk22⟩ := wl hz
      replace hf1 : f_X3_narrow_b22 v0 v1 t12 h13 = some x22 := hf1
      unfold f_X3_narrow_b22 at hf1
      have J59 : ∀ (h14 : aH) (t15 : Int32), f_X3_narrow_j59 h14 v0 v1 t15 = some x22 → gW p l e (rmO 2 0 0) s m args below meth c (MQ below (eQ D cA B Hb out none) args s 0 0 (fun q => B ≤ q)) D cA B Hb 4 h14 59 [(0, .ref v0), (1, .int v1), (2, .int t15)] [] 0 0 := by
        intro h14 t15 hf1
        unfold f_X3_narrow_j59 at hf1
        obtain ⟨t16, e17, hf1⟩ := ob hf1
        refine r_iinc (lv' := [(2, .int t16), (0, .ref v0), (1, .int v1)]) C dX3_narrow_59 rfl e17 (by decide) rfl ?_
        refine r_goto (tgt := 22) C dX3_narrow_62 (by decide) ?_
        obtain rfl := so hf1
        refine r_subk [1, 2, 0] (lv' := [(0, .ref v0), (1, .int v1), (2, .int t16)]) rfl ?_
        exact ih22 t16 h14 hk22
      refine r_iload_n C dX3_narrow_22 rfl ?_
      refine r_aload_n C dX3_narrow_23 rfl ?_
      obtain ⟨t18, e19, hf1⟩ := ob hf1
      refine r_getR C fk_X3_35 rfl dX3_narrow_24 e19 ?_
      obtain ⟨t20, e21, hf1⟩ := ob hf1
      refine r_getI C fk_X3_60 rfl dX3_narrow_27 e21 ?_
      refine r_icmp_ge (tgt := 65) C dX3_narrow_30 (by decide) (fun c22 => ?_) (fun c22 => ?_)
      · rw [if_pos c22] at hf1
        obtain rfl := so hf1
        obtain rfl := so (show some h13 = some y11 from hk22)
        refine r_iconst (v := 0) C dX3_narrow_65 (by decide) ?_
        refine r_istore_n (lv' := [(2, .int (0 : Int32)), (0, .ref v0), (1, .int v1)]) C dX3_narrow_66 (by decide) rfl rfl ?_
        refine r_iconst (v := 0) C dX3_narrow_67 (by decide) ?_
        refine r_istore_n (lv' := [(3, .int (0 : Int32)), (2, .int (0 : Int32)), (0, .ref v0), (1, .int v1)]) C dX3_narrow_68 (by decide) rfl rfl ?_
        obtain ⟨y23, y24, hl69, hf0⟩ := ob2 hf0
        have L69 : ∀ (n : Nat) (t25 : Int32) (t26 : Int32) (h27 : aH), whileL n (fun q : Int32 × Int32 × aH => f_X3_narrow_b69 v0 v1 q.1 q.2.1 q.2.2) (t25, t26, h27) = some (y23, y24) → gW p l e (rmO 2 0 0) s m args below meth c (MQ below (eQ D cA B Hb out none) args s 0 0 (fun q => B ≤ q)) D cA B Hb 4 h27 69 [(0, .ref v0), (1, .int v1), (2, .int t25), (3, .int t26)] [] 0 0 := by
          intro n
          induction n with
          | zero => intro t25 t26 h27 hz; cases hz
          | succ n ih69 =>
            intro t25 t26 h27 hz
            obtain ⟨x69, hf1, hk69⟩ := wl hz
            replace hf1 : f_X3_narrow_b69 v0 v1 t25 t26 h27 = some x69 := hf1
            unfold f_X3_narrow_b69 at hf1
            have J114 : ∀ (h28 : aH) (t29 : Int32) (t30 : Int32), f_X3_narrow_j114 h28 v0 v1 t29 t30 = some x69 → gW p l e (rmO 2 0 0) s m args below meth c (MQ below (eQ D cA B Hb out none) args s 0 0 (fun q => B ≤ q)) D cA B Hb 4 h28 114 [(0, .ref v0), (1, .int v1), (2, .int t29), (3, .int t30)] [] 0 0 := by
              intro h28 t29 t30 hf1
              unfold f_X3_narrow_j114 at hf1
              obtain ⟨t31, e32, hf1⟩ := ob hf1
              refine r_iinc (lv' := [(3, .int t31), (0, .ref v0), (1, .int v1), (2, .int t29)]) C dX3_narrow_114 rfl e32 (by decide) rfl ?_
              refine r_goto (tgt := 69) C dX3_narrow_117 (by decide) ?_
              obtain rfl := so hf1
              refine r_subk [1, 2, 3, 0] (lv' := [(0, .ref v0), (1, .int v1), (2, .int t29), (3, .int t31)]) rfl ?_
              exact ih69 t29 t31 h28 hk69
            refine r_iload_n C dX3_narrow_69 rfl ?_
            refine r_aload_n C dX3_narrow_70 rfl ?_
            obtain ⟨t33, e34, hf1⟩ := ob hf1
            refine r_getI C fk_X3_28 rfl dX3_narrow_71 e34 ?_
            refine r_icmp_ge (tgt := 120) C dX3_narrow_74 (by decide) (fun c35 => ?_) (fun c35 => ?_)
            · rw [if_pos c35] at hf1
              obtain rfl := so hf1
              obtain ⟨rfl, rfl⟩ := so2 (show some (t25, h27) = some (y23, y24) from hk69)
              refine r_aload_n C dX3_narrow_120 rfl ?_
              refine r_iload_n C dX3_narrow_121 rfl ?_
              obtain ⟨h36, e37, hf0⟩ := ob hf0
              refine r_putI C fk_X3_28 dX3_narrow_122 e37 ?_
              obtain rfl := so hf0
              exact r_vret C dX3_narrow_125
            · rw [if_neg c35] at hf1
              refine r_aload_n C dX3_narrow_77 rfl ?_
              refine r_aload_n C dX3_narrow_78 rfl ?_
              obtain ⟨t38, e39, hf1⟩ := ob hf1
              refine r_getR C fk_X3_12 rfl dX3_narrow_79 e39 ?_
              obtain ⟨t40, e41, hf1⟩ := ob hf1
              refine r_getR C fk_X3_77 rfl dX3_narrow_82 e41 ?_
              refine r_iload_n C dX3_narrow_85 rfl ?_
              obtain ⟨t42, e43, hf1⟩ := ob hf1
              refine r_ldI C dX3_narrow_86 e43 ?_
              refine r_aload_n C dX3_narrow_87 rfl ?_
              obtain ⟨t44, e45, hf1⟩ := ob hf1
              refine r_getR C fk_X3_22 rfl dX3_narrow_88 e45 ?_
              refine r_iload_n C dX3_narrow_91 rfl ?_
              obtain ⟨t46, e47, hf1⟩ := ob hf1
              refine r_ldI C dX3_narrow_92 e47 ?_
              obtain ⟨u49, e48, hf1⟩ := ob hf1
              obtain ⟨t50, e51, hf1⟩ := ob hf1
              refine r_cV (ci := 3) (rest := []) (st2 := [.int t50]) C (s_X3_kindsLeft e51) mk_X3_kindsLeft rfl (ck_k e48) (by decide) im_X3_kindsLeft sl_X3_kindsLeft lk_X3_80 rfl rfl rfl dX3_narrow_93 (Nat.le_of_ble_eq_true rfl) ⟨Nat.le_of_ble_eq_true rfl, Nat.le_of_ble_eq_true rfl⟩ ⟨Nat.le_of_ble_eq_true rfl, Nat.le_of_ble_eq_true rfl⟩ ?_
              refine r_ifeq (tgt := 114) C dX3_narrow_96 (by decide) (fun c52 => ?_) (fun c52 => ?_)
              · rw [if_pos c52] at hf1
                exact J114 h27 t25 t26 hf1
              · rw [if_neg c52] at hf1
                refine r_aload_n C dX3_narrow_99 rfl ?_
                obtain ⟨t53, e54, hf1⟩ := ob hf1
                refine r_getR C fk_X3_22 rfl dX3_narrow_100 e54 ?_
                refine r_iload_n C dX3_narrow_103 rfl ?_
                refine r_aload_n C dX3_narrow_104 rfl ?_
                obtain ⟨t55, e56, hf1⟩ := ob hf1
                refine r_getR C fk_X3_22 rfl dX3_narrow_105 e56 ?_
                refine r_iload_n C dX3_narrow_108 rfl ?_
                obtain ⟨t57, e58, hf1⟩ := ob hf1
                refine r_ldI C dX3_narrow_109 e58 ?_
                obtain ⟨h59, e60, hf1⟩ := ob hf1
                refine r_stI C dX3_narrow_110 e60 ?_
                obtain ⟨t61, e62, hf1⟩ := ob hf1
                refine r_iinc (lv' := [(2, .int t61), (0, .ref v0), (1, .int v1), (3, .int t26)]) C dX3_narrow_111 rfl e62 (by decide) rfl ?_
                refine r_subk [1, 2, 0, 3] (lv' := [(0, .ref v0), (1, .int v1), (2, .int t61), (3, .int t26)]) rfl ?_
                exact J114 h59 t61 t26 hf1
        refine r_subk [2, 3, 1, 0] (lv' := [(0, .ref v0), (1, .int v1), (2, .int (0 : Int32)), (3, .int (0 : Int32))]) rfl ?_
        exact L69 wN (0 : Int32) (0 : Int32) h13 hl69
      · rw [if_neg c22] at hf1
        refine r_aload_n C dX3_narrow_33 rfl ?_
        obtain ⟨t63, e64, hf1⟩ := ob hf1
        refine r_getR C fk_X3_35 rfl dX3_narrow_34 e64 ?_
        refine r_iload_n C dX3_narrow_37 rfl ?_
        obtain ⟨u66, e65, hf1⟩ := ob hf1
        obtain ⟨t67, e68, hf1⟩ := ob hf1
        refine r_cV (ci := 1) (rest := []) (st2 := [.int t67]) C (s_X1_canBe e68) mk_X1_canBe rfl (ck_k e65) (by decide) im_X1_canBe sl_X1_canBe lk_X3_66 rfl rfl rfl dX3_narrow_38 (Nat.le_of_ble_eq_true rfl) ⟨Nat.le_of_ble_eq_true rfl, Nat.le_of_ble_eq_true rfl⟩ ⟨Nat.le_of_ble_eq_true rfl, Nat.le_of_ble_eq_true rfl⟩ ?_
        refine r_ifeq (tgt := 59) C dX3_narrow_41 (by decide) (fun c69 => ?_) (fun c69 => ?_)
        · rw [if_pos c69] at hf1
          exact J59 h13 t12 hf1
        · rw [if_neg c69] at hf1
          refine r_aload_n C dX3_narrow_44 rfl ?_
          obtain ⟨t70, e71, hf1⟩ := ob hf1
          refine r_getR C fk_X3_18 rfl dX3_narrow_45 e71 ?_
          refine r_iload_n C dX3_narrow_48 rfl ?_
          refine r_dup2 C dX3_narrow_49 rfl rfl ?_
          obtain ⟨t72, e73, hf1⟩ := ob hf1
          refine r_ldI C dX3_narrow_50 e73 ?_
          refine r_aload_n C dX3_narrow_51 rfl ?_
          refine r_iload_n C dX3_narrow_52 rfl ?_
          refine r_iload_n C dX3_narrow_53 rfl ?_
          obtain ⟨u75, e74, hf1⟩ := ob hf1
          obtain ⟨t76, e77, hf1⟩ := ob hf1
          refine r_cV (ci := 3) (rest := [.int t72, .int t12, .ref t70]) (st2 := [.int t76, .int t72, .int t12, .ref t70]) C (s_X3_agreeing e77) mk_X3_agreeing rfl (ck_k e74) (by decide) im_X3_agreeing sl_X3_agreeing lk_X3_73 rfl rfl rfl dX3_narrow_54 (Nat.le_of_ble_eq_true rfl) ⟨Nat.le_of_ble_eq_true rfl, Nat.le_of_ble_eq_true rfl⟩ ⟨Nat.le_of_ble_eq_true rfl, Nat.le_of_ble_eq_true rfl⟩ ?_
          refine r_iand C dX3_narrow_57 ?_
          obtain ⟨h78, e79, hf1⟩ := ob hf1
          refine r_stI C dX3_narrow_58 e79 ?_
          exact J59 h78 t12 hf1
  refine r_subk [1, 2, 0] (lv' := [(0, .ref v0), (1, .int v1), (2, .int (0 : Int32))]) rfl ?_
  exact L22 wN (0 : Int32) h9 hl22
