def f_X12_meansBy_j51 (h : aH) (v0 : Nat) (v1 : Int32) (v2 : Int32) (s0 : Nat) (s1 : Int32) (s2 : Int64) : Option ((Int32 × aH) ⊕ (aH)) := (sJ h s0 s1 s2).bind fun h1 => (some (v2 + (1 : Int32))).bind fun t2 => some (.inl (t2, h1))
def f_X12_meansBy_b2 (v0 : Nat) (v1 : Int32) (v2 : Int32) (h : aH) : Option ((Int32 × aH) ⊕ (aH)) := if (4 : Int32) ≤ v2 then some (.inr h) else (gR h 12 v0 1).bind fun t3 => (nz (2 : Int32)).bind fun _ => (lJ h t3 (((4 : Int32) + ((4 : Int32) * (v1 / (2 : Int32)))) + v2)).bind fun t4 => (gR h 12 v0 33).bind fun t5 => (nz (2 : Int32)).bind fun _ => if (v1 - v1 / (2 : Int32) * (2 : Int32)) = 0 then f_X12_meansBy_j51 h v0 v1 v2 t5 v2 t4 else (gR h 12 v0 1).bind fun t6 => (lJ h t6 ((0 : Int32) + v2)).bind fun t7 => f_X12_meansBy_j51 h v0 v1 v2 t5 v2 (t7 &&& (t4 ^^^ (-1 : Int64)))
def f_X12_meansBy_l2 (v0 : Nat) (v1 : Int32) (v2 : Int32) (h : aH) : Option (aH) := whileL wN (fun q : Int32 × aH => f_X12_meansBy_b2 v0 v1 q.1 q.2) (v2, h)
def f_X12_meansBy (h : aH) (v0 : Nat) (v1 : Int32) : Option (aH) := (f_X12_meansBy_l2 v0 v1 (0 : Int32) h).bind fun h8 => some h8
theorem s_X12_meansBy {h : aH} {v0 : Nat} {v1 : Int32} {out : aH} (hf0 : f_X12_meansBy h v0 v1 = some out) : EV 0 yX12_meansBy cX12_meansBy 5 none h [.ref v0, .int v1] none out 0 0 := by
  refine EV.of (own := RX12) (lv0 := [(0, .ref v0), (1, .int v1)]) (by decide +kernel) rfl rfl (Nat.le_of_ble_eq_true rfl) ?_
  intro p l e s m args below meth c D cA B Hb C hin
  unfold f_X12_meansBy at hf0
  refine r_iconst (v := 0) C dX12_meansBy_0 (by decide) ?_
  refine r_istore_n (lv' := [(2, .int (0 : Int32)), (0, .ref v0), (1, .int v1)]) C dX12_meansBy_1 (by decide) rfl rfl ?_
  obtain ⟨y1, hl2, hf0⟩ := ob hf0
  have L2 : ∀ (n : Nat) (t2 : Int32) (h3 : aH), whileL n (fun q : Int32 × aH => f_X12_meansBy_b2 v0 v1 q.1 q.2) (t2, h3) = some y1 → gW p l e (rmO 0 0 0) s m args below meth c (MQ below (eQ D cA B Hb out none) args s 0 0 (fun q => B ≤ q)) D cA B Hb 5 h3 2 [(0, .ref v0), (1, .int v1), (2, .int t2)] [] 0 0 := by
    intro n
    induction n with
    | zero => intro t2 h3 hz; cases hz
    | succ n ih2 =>
      intro t2 h3 hz
      obtain ⟨x2, hf1, hk2⟩ := wl hz
      replace hf1 : f_X12_meansBy_b2 v0 v1 t2 h3 = some x2 := hf1
      unfold f_X12_meansBy_b2 at hf1
      have J51 : ∀ (h4 : aH) (t5 : Int32) (t6 : Nat) (t7 : Int32) (t8 : Int64), f_X12_meansBy_j51 h4 v0 v1 t5 t6 t7 t8 = some x2 → gW p l e (rmO 0 0 0) s m args below meth c (MQ below (eQ D cA B Hb out none) args s 0 0 (fun q => B ≤ q)) D cA B Hb 5 h4 51 [(0, .ref v0), (1, .int v1), (2, .int t5)] [.long t8, .int t7, .ref t6] 0 0 := by
        intro h4 t5 t6 t7 t8 hf1
        unfold f_X12_meansBy_j51 at hf1
        obtain ⟨h9, e10, hf1⟩ := ob hf1
        refine r_stJ C dX12_meansBy_51 e10 ?_
        obtain ⟨t11, e12, hf1⟩ := ob hf1
        refine r_iinc (lv' := [(2, .int t11), (0, .ref v0), (1, .int v1)]) C dX12_meansBy_52 rfl e12 (by decide) rfl ?_
        refine r_goto (tgt := 2) C dX12_meansBy_55 (by decide) ?_
        obtain rfl := so hf1
        refine r_subk [1, 2, 0] (lv' := [(0, .ref v0), (1, .int v1), (2, .int t11)]) rfl ?_
        exact ih2 t11 h9 hk2
      refine r_iload_n C dX12_meansBy_2 rfl ?_
      refine r_iconst (v := 4) C dX12_meansBy_3 (by decide) ?_
      refine r_icmp_ge (tgt := 58) C dX12_meansBy_4 (by decide) (fun c13 => ?_) (fun c13 => ?_)
      · rw [if_pos c13] at hf1
        obtain rfl := so hf1
        obtain rfl := so (show some h3 = some y1 from hk2)
        obtain rfl := so hf0
        exact r_vret C dX12_meansBy_58
      · rw [if_neg c13] at hf1
        refine r_aload_n C dX12_meansBy_7 rfl ?_
        obtain ⟨t14, e15, hf1⟩ := ob hf1
        refine r_getR C fk_X12_13 rfl dX12_meansBy_8 e15 ?_
        refine r_iconst (v := 4) C dX12_meansBy_11 (by decide) ?_
        refine r_iconst (v := 4) C dX12_meansBy_12 (by decide) ?_
        refine r_iload_n C dX12_meansBy_13 rfl ?_
        refine r_iconst (v := 2) C dX12_meansBy_14 (by decide) ?_
        obtain ⟨u17, e16, hf1⟩ := ob hf1
        refine r_idiv C dX12_meansBy_15 (nz_k e16) ?_
        refine r_imul C dX12_meansBy_16 ?_
        refine r_iadd C dX12_meansBy_17 ?_
        refine r_iload_n C dX12_meansBy_18 rfl ?_
        refine r_iadd C dX12_meansBy_19 ?_
        obtain ⟨t18, e19, hf1⟩ := ob hf1
        refine r_ldJ C dX12_meansBy_20 e19 ?_
        refine r_lstore_n (lv' := [(3, .long t18), (0, .ref v0), (1, .int v1), (2, .int t2)]) C dX12_meansBy_21 (by decide) rfl rfl ?_
        refine r_aload_n C dX12_meansBy_22 rfl ?_
        obtain ⟨t20, e21, hf1⟩ := ob hf1
        refine r_getR C fk_X12_66 rfl dX12_meansBy_23 e21 ?_
        refine r_iload_n C dX12_meansBy_26 rfl ?_
        refine r_iload_n C dX12_meansBy_27 rfl ?_
        refine r_iconst (v := 2) C dX12_meansBy_28 (by decide) ?_
        obtain ⟨u23, e22, hf1⟩ := ob hf1
        refine r_irem C dX12_meansBy_29 (nz_k e22) ?_
        refine r_ifne (tgt := 37) C dX12_meansBy_30 (by decide) (fun c24 => ?_) (fun c24 => ?_)
        · rw [if_neg c24] at hf1
          refine r_aload_n C dX12_meansBy_37 rfl ?_
          obtain ⟨t25, e26, hf1⟩ := ob hf1
          refine r_getR C fk_X12_13 rfl dX12_meansBy_38 e26 ?_
          refine r_iconst (v := 0) C dX12_meansBy_41 (by decide) ?_
          refine r_iload_n C dX12_meansBy_42 rfl ?_
          refine r_iadd C dX12_meansBy_43 ?_
          obtain ⟨t27, e28, hf1⟩ := ob hf1
          refine r_ldJ C dX12_meansBy_44 e28 ?_
          refine r_lload_n C dX12_meansBy_45 rfl ?_
          refine r_ldc2 (v := -1) C dX12_meansBy_46 cl_X12_124 ?_
          refine r_lxor C dX12_meansBy_49 ?_
          refine r_land C dX12_meansBy_50 ?_
          refine r_subk [1, 2, 3] (lv' := [(0, .ref v0), (1, .int v1), (2, .int t2)]) rfl ?_
          exact J51 h3 t2 t20 t2 (t27 &&& (t18 ^^^ (-1 : Int64))) hf1
        · rw [if_pos c24] at hf1
          refine r_lload_n C dX12_meansBy_33 rfl ?_
          refine r_goto (tgt := 51) C dX12_meansBy_34 (by decide) ?_
          refine r_subk [1, 2, 3] (lv' := [(0, .ref v0), (1, .int v1), (2, .int t2)]) rfl ?_
          exact J51 h3 t2 t20 t2 t18 hf1
  refine r_subk [1, 2, 0] (lv' := [(0, .ref v0), (1, .int v1), (2, .int (0 : Int32))]) rfl ?_
  exact L2 wN (0 : Int32) h hl2
def f_X12_isMeant_j40 (h : aH) (v0 : Nat) (v2 : Int32) (s0 : Int32) : Option ((Int32 × Int32) ⊕ (Int32)) := (some (v2 + (1 : Int32))).bind fun t1 => some (.inl (s0, t1))
def f_X12_isMeant_j39 (h : aH) (v0 : Nat) (v2 : Int32) : Option ((Int32 × Int32) ⊕ (Int32)) := f_X12_isMeant_j40 h v0 v2 (0 : Int32)
def f_X12_isMeant_b4 (h : aH) (v0 : Nat) (v1 : Int32) (v2 : Int32) : Option ((Int32 × Int32) ⊕ (Int32)) := if (4 : Int32) ≤ v2 then some (.inr v1) else if v1 = 0 then f_X12_isMeant_j39 h v0 v2 else (gR h 12 v0 32).bind fun t2 => (lJ h t2 v2).bind fun t3 => (gR h 12 v0 33).bind fun t4 => (lJ h t4 v2).bind fun t5 => if (lg_cmp (t3 &&& (t5 ^^^ (-1 : Int64))) (0 : Int64)) = 0 then f_X12_isMeant_j40 h v0 v2 (1 : Int32) else f_X12_isMeant_j39 h v0 v2
def f_X12_isMeant_l4 (h : aH) (v0 : Nat) (v1 : Int32) (v2 : Int32) : Option (Int32) := whileL wN (fun q : Int32 × Int32 => f_X12_isMeant_b4 h v0 q.1 q.2) (v1, v2)
def f_X12_isMeant (h : aH) (v0 : Nat) : Option (Int32) := (f_X12_isMeant_l4 h v0 (1 : Int32) (0 : Int32)).bind fun t6 => (rZ t6).bind fun t7 => some t7
theorem s_X12_isMeant {h : aH} {v0 : Nat} {out : Int32} (hf0 : f_X12_isMeant h v0 = some out) : EV 0 yX12_isMeant cX12_isMeant 3 (some .boolean) h [.ref v0] (some (.int out)) h 0 0 := by
  refine EV.of (own := RX12) (lv0 := [(0, .ref v0)]) (by decide +kernel) rfl rfl (Nat.le_of_ble_eq_true rfl) ?_
  intro p l e s m args below meth c D cA B Hb C hin
  unfold f_X12_isMeant at hf0
  refine r_iconst (v := 1) C dX12_isMeant_0 (by decide) ?_
  refine r_istore_n (lv' := [(1, .int (1 : Int32)), (0, .ref v0)]) C dX12_isMeant_1 (by decide) rfl rfl ?_
  refine r_iconst (v := 0) C dX12_isMeant_2 (by decide) ?_
  refine r_istore_n (lv' := [(2, .int (0 : Int32)), (1, .int (1 : Int32)), (0, .ref v0)]) C dX12_isMeant_3 (by decide) rfl rfl ?_
  obtain ⟨y1, hl4, hf0⟩ := ob hf0
  have L4 : ∀ (n : Nat) (t2 : Int32) (t3 : Int32), whileL n (fun q : Int32 × Int32 => f_X12_isMeant_b4 h v0 q.1 q.2) (t2, t3) = some y1 → gW p l e (rmO 0 0 0) s m args below meth c (MQ below (eQ D cA B Hb h (some (.int out))) args s 0 0 (fun q => B ≤ q)) D cA B Hb 3 h 4 [(0, .ref v0), (1, .int t2), (2, .int t3)] [] 0 0 := by
    intro n
    induction n with
    | zero => intro t2 t3 hz; cases hz
    | succ n ih4 =>
      intro t2 t3 hz
      obtain ⟨x4, hf1, hk4⟩ := wl hz
      replace hf1 : f_X12_isMeant_b4 h v0 t2 t3 = some x4 := hf1
      unfold f_X12_isMeant_b4 at hf1
      have J40 : ∀ (t4 : Int32) (t5 : Int32), f_X12_isMeant_j40 h v0 t4 t5 = some x4 → gW p l e (rmO 0 0 0) s m args below meth c (MQ below (eQ D cA B Hb h (some (.int out))) args s 0 0 (fun q => B ≤ q)) D cA B Hb 3 h 40 [(0, .ref v0), (2, .int t4)] [.int t5] 0 0 := by
        intro t4 t5 hf1
        unfold f_X12_isMeant_j40 at hf1
        refine r_istore_n (lv' := [(1, .int t5), (0, .ref v0), (2, .int t4)]) C dX12_isMeant_40 (by decide) rfl rfl ?_
        obtain ⟨t6, e7, hf1⟩ := ob hf1
        refine r_iinc (lv' := [(2, .int t6), (1, .int t5), (0, .ref v0)]) C dX12_isMeant_41 rfl e7 (by decide) rfl ?_
        refine r_goto (tgt := 4) C dX12_isMeant_44 (by decide) ?_
        obtain rfl := so hf1
        refine r_subk [2, 1, 0] (lv' := [(0, .ref v0), (1, .int t5), (2, .int t6)]) rfl ?_
        exact ih4 t5 t6 hk4
      have J39 : ∀ (t8 : Int32), f_X12_isMeant_j39 h v0 t8 = some x4 → gW p l e (rmO 0 0 0) s m args below meth c (MQ below (eQ D cA B Hb h (some (.int out))) args s 0 0 (fun q => B ≤ q)) D cA B Hb 3 h 39 [(0, .ref v0), (2, .int t8)] [] 0 0 := by
        intro t8 hf1
        unfold f_X12_isMeant_j39 at hf1
        refine r_iconst (v := 0) C dX12_isMeant_39 (by decide) ?_
        exact J40 t8 (0 : Int32) hf1
      refine r_iload_n C dX12_isMeant_4 rfl ?_
      refine r_iconst (v := 4) C dX12_isMeant_5 (by decide) ?_
      refine r_icmp_ge (tgt := 47) C dX12_isMeant_6 (by decide) (fun c9 => ?_) (fun c9 => ?_)
      · rw [if_pos c9] at hf1
        obtain rfl := so hf1
        obtain rfl := so (show some t2 = some y1 from hk4)
        refine r_iload_n C dX12_isMeant_47 rfl ?_
        obtain ⟨t10, e11, hf0⟩ := ob hf0
        obtain ⟨rfl, e11z⟩ := rZ_k e11
        obtain rfl := so hf0
        exact r_zret C dX12_isMeant_48 e11z
      · rw [if_neg c9] at hf1
        refine r_iload_n C dX12_isMeant_9 rfl ?_
        refine r_ifeq (tgt := 39) C dX12_isMeant_10 (by decide) (fun c12 => ?_) (fun c12 => ?_)
        · rw [if_pos c12] at hf1
          refine r_subk [0, 2] (lv' := [(0, .ref v0), (2, .int t3)]) rfl ?_
          exact J39 t3 hf1
        · rw [if_neg c12] at hf1
          refine r_aload_n C dX12_isMeant_13 rfl ?_
          obtain ⟨t13, e14, hf1⟩ := ob hf1
          refine r_getR C fk_X12_63 rfl dX12_isMeant_14 e14 ?_
          refine r_iload_n C dX12_isMeant_17 rfl ?_
          obtain ⟨t15, e16, hf1⟩ := ob hf1
          refine r_ldJ C dX12_isMeant_18 e16 ?_
          refine r_aload_n C dX12_isMeant_19 rfl ?_
          obtain ⟨t17, e18, hf1⟩ := ob hf1
          refine r_getR C fk_X12_66 rfl dX12_isMeant_20 e18 ?_
          refine r_iload_n C dX12_isMeant_23 rfl ?_
          obtain ⟨t19, e20, hf1⟩ := ob hf1
          refine r_ldJ C dX12_isMeant_24 e20 ?_
          refine r_ldc2 (v := -1) C dX12_isMeant_25 cl_X12_124 ?_
          refine r_lxor C dX12_isMeant_28 ?_
          refine r_land C dX12_isMeant_29 ?_
          refine r_lconst (v := 0) C dX12_isMeant_30 (by decide) ?_
          refine r_lcmp C dX12_isMeant_31 ?_
          refine r_ifne (tgt := 39) C dX12_isMeant_32 (by decide) (fun c21 => ?_) (fun c21 => ?_)
          · rw [if_neg c21] at hf1
            refine r_subk [0, 2] (lv' := [(0, .ref v0), (2, .int t3)]) rfl ?_
            exact J39 t3 hf1
          · rw [if_pos c21] at hf1
            refine r_iconst (v := 1) C dX12_isMeant_35 (by decide) ?_
            refine r_goto (tgt := 40) C dX12_isMeant_36 (by decide) ?_
            refine r_subk [0, 2] (lv' := [(0, .ref v0), (2, .int t3)]) rfl ?_
            exact J40 t3 (1 : Int32) hf1
  refine r_subk [2, 1, 0] (lv' := [(0, .ref v0), (1, .int (1 : Int32)), (2, .int (0 : Int32))]) rfl ?_
  exact L4 wN (1 : Int32) (0 : Int32) hl4
def f_X12_liesTo_j91 (h : aH) (v0 : Nat) (v1 : Int32) (v2 : Int32) (v3 : Int32) : Option ((Int32 × Int32) ⊕ (Int32)) := (some (v3 + (1 : Int32))).bind fun t1 => some (.inl (v2, t1))
def f_X12_liesTo_j63 (h : aH) (v0 : Nat) (v1 : Int32) (v2 : Int32) (v3 : Int32) : Option ((Int32 × Int32) ⊕ (Int32)) := (gR h 12 v0 1).bind fun t2 => (lJ h t2 ((0 : Int32) + v3)).bind fun t3 => (gR h 12 v0 33).bind fun t4 => (lJ h t4 v3).bind fun t5 => if (lg_cmp (t3 &&& (t5 ^^^ (-1 : Int64))) (0 : Int64)) = 0 then f_X12_liesTo_j91 h v0 v1 v2 v3 else (some (v2 ||| (4 : Int32))).bind fun t6 => f_X12_liesTo_j91 h v0 v1 t6 v3
def f_X12_liesTo_j41 (h : aH) (v0 : Nat) (v1 : Int32) (v2 : Int32) (v3 : Int32) (v4 : Int64) : Option ((Int32 × Int32) ⊕ (Int32)) := (gR h 12 v0 33).bind fun t7 => (lJ h t7 v3).bind fun t8 => if (lg_cmp (t8 &&& (v4 ^^^ (-1 : Int64))) (0 : Int64)) = 0 then f_X12_liesTo_j63 h v0 v1 v2 v3 else (some (v2 ||| (2 : Int32))).bind fun t9 => f_X12_liesTo_j63 h v0 v1 t9 v3
def f_X12_liesTo_b4 (h : aH) (v0 : Nat) (v1 : Int32) (v2 : Int32) (v3 : Int32) : Option ((Int32 × Int32) ⊕ (Int32)) := if (4 : Int32) ≤ v3 then some (.inr v2) else (gR h 12 v0 1).bind fun t10 => (lJ h t10 (((4 : Int32) + ((4 : Int32) * v1)) + v3)).bind fun t11 => (gR h 12 v0 33).bind fun t12 => (lJ h t12 v3).bind fun t13 => if (lg_cmp (t13 &&& t11) (0 : Int64)) = 0 then f_X12_liesTo_j41 h v0 v1 v2 v3 t11 else (some (v2 ||| (1 : Int32))).bind fun t14 => f_X12_liesTo_j41 h v0 v1 t14 v3 t11
def f_X12_liesTo_l4 (h : aH) (v0 : Nat) (v1 : Int32) (v2 : Int32) (v3 : Int32) : Option (Int32) := whileL wN (fun q : Int32 × Int32 => f_X12_liesTo_b4 h v0 v1 q.1 q.2) (v2, v3)
def f_X12_liesTo (h : aH) (v0 : Nat) (v1 : Int32) : Option (Int32) := (f_X12_liesTo_l4 h v0 v1 (0 : Int32) (0 : Int32)).bind fun t15 => some t15
theorem s_X12_liesTo {h : aH} {v0 : Nat} {v1 : Int32} {out : Int32} (hf0 : f_X12_liesTo h v0 v1 = some out) : EV 0 yX12_liesTo cX12_liesTo 6 (some .int) h [.ref v0, .int v1] (some (.int out)) h 0 0 := by
  refine EV.of (own := RX12) (lv0 := [(0, .ref v0), (1, .int v1)]) (by decide +kernel) rfl rfl (Nat.le_of_ble_eq_true rfl) ?_
  intro p l e s m args below meth c D cA B Hb C hin
  unfold f_X12_liesTo at hf0
  refine r_iconst (v := 0) C dX12_liesTo_0 (by decide) ?_
  refine r_istore_n (lv' := [(2, .int (0 : Int32)), (0, .ref v0), (1, .int v1)]) C dX12_liesTo_1 (by decide) rfl rfl ?_
  refine r_iconst (v := 0) C dX12_liesTo_2 (by decide) ?_
  refine r_istore_n (lv' := [(3, .int (0 : Int32)), (2, .int (0 : Int32)), (0, .ref v0), (1, .int v1)]) C dX12_liesTo_3 (by decide) rfl rfl ?_
  obtain ⟨y1, hl4, hf0⟩ := ob hf0
  have L4 : ∀ (n : Nat) (t2 : Int32) (t3 : Int32), whileL n (fun q : Int32 × Int32 => f_X12_liesTo_b4 h v0 v1 q.1 q.2) (t2, t3) = some y1 → gW p l e (rmO 0 0 0) s m args below meth c (MQ below (eQ D cA B Hb h (some (.int out))) args s 0 0 (fun q => B ≤ q)) D cA B Hb 6 h 4 [(0, .ref v0), (1, .int v1), (2, .int t2), (3, .int t3)] [] 0 0 := by
    intro n
    induction n with
    | zero => intro t2 t3 hz; cases hz
    | succ n ih4 =>
      intro t2 t3 hz
      obtain ⟨x4, hf1, hk4⟩ := wl hz
      replace hf1 : f_X12_liesTo_b4 h v0 v1 t2 t3 = some x4 := hf1
      unfold f_X12_liesTo_b4 at hf1
      have J91 : ∀ (t4 : Int32) (t5 : Int32), f_X12_liesTo_j91 h v0 v1 t4 t5 = some x4 → gW p l e (rmO 0 0 0) s m args below meth c (MQ below (eQ D cA B Hb h (some (.int out))) args s 0 0 (fun q => B ≤ q)) D cA B Hb 6 h 91 [(0, .ref v0), (1, .int v1), (2, .int t4), (3, .int t5)] [] 0 0 := by
        intro t4 t5 hf1
        unfold f_X12_liesTo_j91 at hf1
        obtain ⟨t6, e7, hf1⟩ := ob hf1
        refine r_iinc (lv' := [(3, .int t6), (0, .ref v0), (1, .int v1), (2, .int t4)]) C dX12_liesTo_91 rfl e7 (by decide) rfl ?_
        refine r_goto (tgt := 4) C dX12_liesTo_94 (by decide) ?_
        obtain rfl := so hf1
        refine r_subk [1, 2, 3, 0] (lv' := [(0, .ref v0), (1, .int v1), (2, .int t4), (3, .int t6)]) rfl ?_
        exact ih4 t4 t6 hk4
      have J63 : ∀ (t8 : Int32) (t9 : Int32), f_X12_liesTo_j63 h v0 v1 t8 t9 = some x4 → gW p l e (rmO 0 0 0) s m args below meth c (MQ below (eQ D cA B Hb h (some (.int out))) args s 0 0 (fun q => B ≤ q)) D cA B Hb 6 h 63 [(0, .ref v0), (1, .int v1), (2, .int t8), (3, .int t9)] [] 0 0 := by
        intro t8 t9 hf1
        unfold f_X12_liesTo_j63 at hf1
        refine r_aload_n C dX12_liesTo_63 rfl ?_
        obtain ⟨t10, e11, hf1⟩ := ob hf1
        refine r_getR C fk_X12_13 rfl dX12_liesTo_64 e11 ?_
        refine r_iconst (v := 0) C dX12_liesTo_67 (by decide) ?_
        refine r_iload_n C dX12_liesTo_68 rfl ?_
        refine r_iadd C dX12_liesTo_69 ?_
        obtain ⟨t12, e13, hf1⟩ := ob hf1
        refine r_ldJ C dX12_liesTo_70 e13 ?_
        refine r_aload_n C dX12_liesTo_71 rfl ?_
        obtain ⟨t14, e15, hf1⟩ := ob hf1
        refine r_getR C fk_X12_66 rfl dX12_liesTo_72 e15 ?_
        refine r_iload_n C dX12_liesTo_75 rfl ?_
        obtain ⟨t16, e17, hf1⟩ := ob hf1
        refine r_ldJ C dX12_liesTo_76 e17 ?_
        refine r_ldc2 (v := -1) C dX12_liesTo_77 cl_X12_124 ?_
        refine r_lxor C dX12_liesTo_80 ?_
        refine r_land C dX12_liesTo_81 ?_
        refine r_lconst (v := 0) C dX12_liesTo_82 (by decide) ?_
        refine r_lcmp C dX12_liesTo_83 ?_
        refine r_ifeq (tgt := 91) C dX12_liesTo_84 (by decide) (fun c18 => ?_) (fun c18 => ?_)
        · rw [if_pos c18] at hf1
          exact J91 t8 t9 hf1
        · rw [if_neg c18] at hf1
          refine r_iload_n C dX12_liesTo_87 rfl ?_
          refine r_iconst (v := 4) C dX12_liesTo_88 (by decide) ?_
          refine r_ior C dX12_liesTo_89 ?_
          obtain ⟨t19, e20, hf1⟩ := ob hf1
          refine r_istore_n (lv' := [(2, .int t19), (0, .ref v0), (1, .int v1), (3, .int t9)]) C dX12_liesTo_90 (by decide) e20 rfl ?_
          refine r_subk [1, 2, 0, 3] (lv' := [(0, .ref v0), (1, .int v1), (2, .int t19), (3, .int t9)]) rfl ?_
          exact J91 t19 t9 hf1
      have J41 : ∀ (t21 : Int32) (t22 : Int32) (t23 : Int64), f_X12_liesTo_j41 h v0 v1 t21 t22 t23 = some x4 → gW p l e (rmO 0 0 0) s m args below meth c (MQ below (eQ D cA B Hb h (some (.int out))) args s 0 0 (fun q => B ≤ q)) D cA B Hb 6 h 41 [(0, .ref v0), (1, .int v1), (2, .int t21), (3, .int t22), (4, .long t23)] [] 0 0 := by
        intro t21 t22 t23 hf1
        unfold f_X12_liesTo_j41 at hf1
        refine r_aload_n C dX12_liesTo_41 rfl ?_
        obtain ⟨t24, e25, hf1⟩ := ob hf1
        refine r_getR C fk_X12_66 rfl dX12_liesTo_42 e25 ?_
        refine r_iload_n C dX12_liesTo_45 rfl ?_
        obtain ⟨t26, e27, hf1⟩ := ob hf1
        refine r_ldJ C dX12_liesTo_46 e27 ?_
        refine r_lload C dX12_liesTo_47 rfl ?_
        refine r_ldc2 (v := -1) C dX12_liesTo_49 cl_X12_124 ?_
        refine r_lxor C dX12_liesTo_52 ?_
        refine r_land C dX12_liesTo_53 ?_
        refine r_lconst (v := 0) C dX12_liesTo_54 (by decide) ?_
        refine r_lcmp C dX12_liesTo_55 ?_
        refine r_ifeq (tgt := 63) C dX12_liesTo_56 (by decide) (fun c28 => ?_) (fun c28 => ?_)
        · rw [if_pos c28] at hf1
          refine r_subk [0, 1, 2, 3] (lv' := [(0, .ref v0), (1, .int v1), (2, .int t21), (3, .int t22)]) rfl ?_
          exact J63 t21 t22 hf1
        · rw [if_neg c28] at hf1
          refine r_iload_n C dX12_liesTo_59 rfl ?_
          refine r_iconst (v := 2) C dX12_liesTo_60 (by decide) ?_
          refine r_ior C dX12_liesTo_61 ?_
          obtain ⟨t29, e30, hf1⟩ := ob hf1
          refine r_istore_n (lv' := [(2, .int t29), (0, .ref v0), (1, .int v1), (3, .int t22), (4, .long t23)]) C dX12_liesTo_62 (by decide) e30 rfl ?_
          refine r_subk [1, 2, 0, 3] (lv' := [(0, .ref v0), (1, .int v1), (2, .int t29), (3, .int t22)]) rfl ?_
          exact J63 t29 t22 hf1
      refine r_iload_n C dX12_liesTo_4 rfl ?_
      refine r_iconst (v := 4) C dX12_liesTo_5 (by decide) ?_
      refine r_icmp_ge (tgt := 97) C dX12_liesTo_6 (by decide) (fun c31 => ?_) (fun c31 => ?_)
      · rw [if_pos c31] at hf1
        obtain rfl := so hf1
        obtain rfl := so (show some t2 = some y1 from hk4)
        refine r_iload_n C dX12_liesTo_97 rfl ?_
        obtain rfl := so hf0
        exact r_iret C dX12_liesTo_98
      · rw [if_neg c31] at hf1
        refine r_aload_n C dX12_liesTo_9 rfl ?_
        obtain ⟨t32, e33, hf1⟩ := ob hf1
        refine r_getR C fk_X12_13 rfl dX12_liesTo_10 e33 ?_
        refine r_iconst (v := 4) C dX12_liesTo_13 (by decide) ?_
        refine r_iconst (v := 4) C dX12_liesTo_14 (by decide) ?_
        refine r_iload_n C dX12_liesTo_15 rfl ?_
        refine r_imul C dX12_liesTo_16 ?_
        refine r_iadd C dX12_liesTo_17 ?_
        refine r_iload_n C dX12_liesTo_18 rfl ?_
        refine r_iadd C dX12_liesTo_19 ?_
        obtain ⟨t34, e35, hf1⟩ := ob hf1
        refine r_ldJ C dX12_liesTo_20 e35 ?_
        refine r_lstore (lv' := [(4, .long t34), (0, .ref v0), (1, .int v1), (2, .int t2), (3, .int t3)]) C dX12_liesTo_21 (by decide) rfl rfl ?_
        refine r_aload_n C dX12_liesTo_23 rfl ?_
        obtain ⟨t36, e37, hf1⟩ := ob hf1
        refine r_getR C fk_X12_66 rfl dX12_liesTo_24 e37 ?_
        refine r_iload_n C dX12_liesTo_27 rfl ?_
        obtain ⟨t38, e39, hf1⟩ := ob hf1
        refine r_ldJ C dX12_liesTo_28 e39 ?_
        refine r_lload C dX12_liesTo_29 rfl ?_
        refine r_land C dX12_liesTo_31 ?_
        refine r_lconst (v := 0) C dX12_liesTo_32 (by decide) ?_
        refine r_lcmp C dX12_liesTo_33 ?_
        refine r_ifeq (tgt := 41) C dX12_liesTo_34 (by decide) (fun c40 => ?_) (fun c40 => ?_)
        · rw [if_pos c40] at hf1
          refine r_subk [1, 2, 3, 4, 0] (lv' := [(0, .ref v0), (1, .int v1), (2, .int t2), (3, .int t3), (4, .long t34)]) rfl ?_
          exact J41 t2 t3 t34 hf1
        · rw [if_neg c40] at hf1
          refine r_iload_n C dX12_liesTo_37 rfl ?_
          refine r_iconst (v := 1) C dX12_liesTo_38 (by decide) ?_
          refine r_ior C dX12_liesTo_39 ?_
          obtain ⟨t41, e42, hf1⟩ := ob hf1
          refine r_istore_n (lv' := [(2, .int t41), (4, .long t34), (0, .ref v0), (1, .int v1), (3, .int t3)]) C dX12_liesTo_40 (by decide) e42 rfl ?_
          refine r_subk [2, 3, 0, 4, 1] (lv' := [(0, .ref v0), (1, .int v1), (2, .int t41), (3, .int t3), (4, .long t34)]) rfl ?_
          exact J41 t41 t3 t34 hf1
  refine r_subk [2, 3, 1, 0] (lv' := [(0, .ref v0), (1, .int v1), (2, .int (0 : Int32)), (3, .int (0 : Int32))]) rfl ?_
  exact L4 wN (0 : Int32) (0 : Int32) hl4
def f_X12_honestly_j168 (h : aH) (v0 : Nat) (v1 : Int32) (v2 : Int32) (v4 : Int32) : Option ((Int32 × aH) ⊕ ((Int32 × aH) ⊕ (aH))) := (some (v4 + (1 : Int32))).bind fun t1 => some (.inl (t1, h))
def f_X12_honestly_j161 (h : aH) (v0 : Nat) (v1 : Int32) (v2 : Int32) (v4 : Int32) (s0 : Int32) (s1 : Int32) : Option ((Int32 × aH) ⊕ ((Int32 × aH) ⊕ (aH))) := if (s0 &&& s1) = 0 then some (.inr (.inl (v4, h))) else f_X12_honestly_j168 h v0 v1 v2 v4
def f_X12_honestly_b110 (v0 : Nat) (v1 : Int32) (v2 : Int32) (v4 : Int32) (h : aH) : Option ((Int32 × aH) ⊕ ((Int32 × aH) ⊕ (aH))) := (gR h 12 v0 0).bind fun t2 => (lI h t2 (3 : Int32)).bind fun t3 => if ((2 : Int32) * t3) ≤ v4 then some (.inr (.inr h)) else (ck h 12 v0).bind fun _ => (f_X12_meansBy h v0 v4).bind fun h4 => if v4 = ((2 : Int32) * v1) then f_X12_honestly_j168 h4 v0 v1 v2 v4 else (ck h4 12 v0).bind fun _ => (f_X12_isMeant h4 v0).bind fun t5 => if t5 = 0 then f_X12_honestly_j168 h4 v0 v1 v2 v4 else (ck h4 12 v0).bind fun _ => (f_X12_liesTo h4 v0 v1).bind fun t6 => if v2 = 0 then f_X12_honestly_j161 h4 v0 v1 v2 v4 t6 (1 : Int32) else f_X12_honestly_j161 h4 v0 v1 v2 v4 t6 (2 : Int32)
def f_X12_honestly_l110 (v0 : Nat) (v1 : Int32) (v2 : Int32) (v4 : Int32) (h : aH) : Option ((Int32 × aH) ⊕ (aH)) := whileL wN (fun q : Int32 × aH => f_X12_honestly_b110 v0 v1 v2 q.1 q.2) (v4, h)
def f_X12_honestly_j107 (h : aH) (v0 : Nat) (v1 : Int32) (v2 : Int32) : Option (Int32 × aH) := (f_X12_honestly_l110 v0 v1 v2 (0 : Int32) h).bind fun e => match e with | .inl (t7, h8) => some (t7, h8) | .inr h9 => some ((2 : Int32) * v1, h9)
def f_X12_honestly_j88 (h : aH) (v0 : Nat) (v1 : Int32) (v2 : Int32) (v4 : Int32) (s0 : Int32) : Option ((Int32 × Int32 × Int32) ⊕ (Int32 × Int32)) := (some (v4 + (1 : Int32))).bind fun t10 => some (.inl (v2, s0, t10))
def f_X12_honestly_j87 (h : aH) (v0 : Nat) (v1 : Int32) (v2 : Int32) (v4 : Int32) : Option ((Int32 × Int32 × Int32) ⊕ (Int32 × Int32)) := f_X12_honestly_j88 h v0 v1 v2 v4 (0 : Int32)
def f_X12_honestly_j52 (h : aH) (v0 : Nat) (v1 : Int32) (v3 : Int32) (v4 : Int32) (s0 : Int32) : Option ((Int32 × Int32 × Int32) ⊕ (Int32 × Int32)) := if v3 = 0 then f_X12_honestly_j87 h v0 v1 s0 v4 else (gR h 12 v0 32).bind fun t11 => (lJ h t11 v4).bind fun t12 => (gR h 12 v0 1).bind fun t13 => (lJ h t13 (((4 : Int32) + ((4 : Int32) * v1)) + v4)).bind fun t14 => if (lg_cmp (t12 &&& t14) (0 : Int64)) = 0 then f_X12_honestly_j88 h v0 v1 s0 v4 (1 : Int32) else f_X12_honestly_j87 h v0 v1 s0 v4
def f_X12_honestly_j51 (h : aH) (v0 : Nat) (v1 : Int32) (v3 : Int32) (v4 : Int32) : Option ((Int32 × Int32 × Int32) ⊕ (Int32 × Int32)) := f_X12_honestly_j52 h v0 v1 v3 v4 (0 : Int32)
def f_X12_honestly_b7 (h : aH) (v0 : Nat) (v1 : Int32) (v2 : Int32) (v3 : Int32) (v4 : Int32) : Option ((Int32 × Int32 × Int32) ⊕ (Int32 × Int32)) := if (4 : Int32) ≤ v4 then some (.inr (v2, v3)) else if v2 = 0 then f_X12_honestly_j51 h v0 v1 v3 v4 else (gR h 12 v0 32).bind fun t15 => (lJ h t15 v4).bind fun t16 => (gR h 12 v0 1).bind fun t17 => (lJ h t17 (((4 : Int32) + ((4 : Int32) * v1)) + v4)).bind fun t18 => if (lg_cmp (t16 &&& (t18 ^^^ (-1 : Int64))) (0 : Int64)) = 0 then f_X12_honestly_j52 h v0 v1 v3 v4 (1 : Int32) else f_X12_honestly_j51 h v0 v1 v3 v4
def f_X12_honestly_l7 (h : aH) (v0 : Nat) (v1 : Int32) (v2 : Int32) (v3 : Int32) (v4 : Int32) : Option (Int32 × Int32) := whileL wN (fun q : Int32 × Int32 × Int32 => f_X12_honestly_b7 h v0 v1 q.1 q.2.1 q.2.2) (v2, v3, v4)
def f_X12_honestly (h : aH) (v0 : Nat) (v1 : Int32) : Option (Int32 × aH) := bd2 (f_X12_honestly_l7 h v0 v1 (1 : Int32) (1 : Int32) (0 : Int32)) fun t19 t20 => if t19 = 0 then if t20 = 0 then some ((2 : Int32) * v1, h) else f_X12_honestly_j107 h v0 v1 t19 else f_X12_honestly_j107 h v0 v1 t19
theorem s_X12_honestly {h : aH} {v0 : Nat} {v1 : Int32} {out : Int32 × aH} (hf0 : f_X12_honestly h v0 v1 = some out) : EV 1 yX12_honestly cX12_honestly 5 (some .int) h [.ref v0, .int v1] (some (.int out.1)) out.2 0 0 := by
  refine EV.of (own := RX12) (lv0 := [(0, .ref v0), (1, .int v1)]) (by decide +kernel) rfl rfl (Nat.le_of_ble_eq_true rfl) ?_
  intro p l e s m args below meth c D cA B Hb C hin
  unfold f_X12_honestly at hf0
  have J107 : ∀ (h1 : aH) (t2 : Nat) (t3 : Int32) (t4 : Int32), f_X12_honestly_j107 h1 t2 t3 t4 = some out → gW p l e (rmO 1 0 0) s m args below meth c (MQ below (eQ D cA B Hb out.2 (some (.int out.1))) args s 0 0 (fun q => B ≤ q)) D cA B Hb 5 h1 107 [(0, .ref t2), (1, .int t3), (2, .int t4)] [] 0 0 := by
    intro h1 t2 t3 t4 hf0
    unfold f_X12_honestly_j107 at hf0
    refine r_iconst (v := 0) C dX12_honestly_107 (by decide) ?_
    refine r_istore (lv' := [(4, .int (0 : Int32)), (0, .ref t2), (1, .int t3), (2, .int t4)]) C dX12_honestly_108 (by decide) rfl rfl ?_
    obtain ⟨y5, hl110, hf0⟩ := ob hf0
    have L110 : ∀ (n : Nat) (t6 : Int32) (h7 : aH), whileL n (fun q : Int32 × aH => f_X12_honestly_b110 t2 t3 t4 q.1 q.2) (t6, h7) = some y5 → gW p l e (rmO 1 0 0) s m args below meth c (MQ below (eQ D cA B Hb out.2 (some (.int out.1))) args s 0 0 (fun q => B ≤ q)) D cA B Hb 5 h7 110 [(0, .ref t2), (1, .int t3), (2, .int t4), (4, .int t6)] [] 0 0 := by
      intro n
      induction n with
      | zero => intro t6 h7 hz; cases hz
      | succ n ih110 =>
        intro t6 h7 hz
        obtain ⟨x110, hf1, hk110⟩ := wl hz
        replace hf1 : f_X12_honestly_b110 t2 t3 t4 t6 h7 = some x110 := hf1
        unfold f_X12_honestly_b110 at hf1
        have J168 : ∀ (h8 : aH) (t9 : Int32), f_X12_honestly_j168 h8 t2 t3 t4 t9 = some x110 → gW p l e (rmO 1 0 0) s m args below meth c (MQ below (eQ D cA B Hb out.2 (some (.int out.1))) args s 0 0 (fun q => B ≤ q)) D cA B Hb 5 h8 168 [(0, .ref t2), (1, .int t3), (2, .int t4), (4, .int t9)] [] 0 0 := by
          intro h8 t9 hf1
          unfold f_X12_honestly_j168 at hf1
          obtain ⟨t10, e11, hf1⟩ := ob hf1
          refine r_iinc (lv' := [(4, .int t10), (0, .ref t2), (1, .int t3), (2, .int t4)]) C dX12_honestly_168 rfl e11 (by decide) rfl ?_
          refine r_goto (tgt := 110) C dX12_honestly_171 (by decide) ?_
          obtain rfl := so hf1
          refine r_subk [1, 2, 3, 0] (lv' := [(0, .ref t2), (1, .int t3), (2, .int t4), (4, .int t10)]) rfl ?_
          exact ih110 t10 h8 hk110
        have J161 : ∀ (h12 : aH) (t13 : Int32) (t14 : Int32) (t15 : Int32), f_X12_honestly_j161 h12 t2 t3 t4 t13 t14 t15 = some x110 → gW p l e (rmO 1 0 0) s m args below meth c (MQ below (eQ D cA B Hb out.2 (some (.int out.1))) args s 0 0 (fun q => B ≤ q)) D cA B Hb 5 h12 161 [(0, .ref t2), (1, .int t3), (2, .int t4), (4, .int t13)] [.int t15, .int t14] 0 0 := by
          intro h12 t13 t14 t15 hf1
          unfold f_X12_honestly_j161 at hf1
          refine r_iand C dX12_honestly_161 ?_
          refine r_ifne (tgt := 168) C dX12_honestly_162 (by decide) (fun c16 => ?_) (fun c16 => ?_)
          · rw [if_neg c16] at hf1
            exact J168 h12 t13 hf1
          · rw [if_pos c16] at hf1
            obtain rfl := so hf1
            obtain rfl := so (show some (.inl (t13, h12) : (Int32 × aH) ⊕ (aH)) = some y5 from hk110)
            dsimp only at hf0
            refine r_iload C dX12_honestly_165 rfl ?_
            obtain rfl := so hf0
            exact r_iret C dX12_honestly_167
        refine r_iload C dX12_honestly_110 rfl ?_
        refine r_iconst (v := 2) C dX12_honestly_112 (by decide) ?_
        refine r_aload_n C dX12_honestly_113 rfl ?_
        obtain ⟨t17, e18, hf1⟩ := ob hf1
        refine r_getR C fk_X12_7 rfl dX12_honestly_114 e18 ?_
        refine r_iconst (v := 3) C dX12_honestly_117 (by decide) ?_
        obtain ⟨t19, e20, hf1⟩ := ob hf1
        refine r_ldI C dX12_honestly_118 e20 ?_
        refine r_imul C dX12_honestly_119 ?_
        refine r_icmp_ge (tgt := 174) C dX12_honestly_120 (by decide) (fun c21 => ?_) (fun c21 => ?_)
        · rw [if_pos c21] at hf1
          obtain rfl := so hf1
          obtain rfl := so (show some (.inr h7 : (Int32 × aH) ⊕ (aH)) = some y5 from hk110)
          dsimp only at hf0
          refine r_iconst (v := 2) C dX12_honestly_174 (by decide) ?_
          refine r_iload_n C dX12_honestly_175 rfl ?_
          refine r_imul C dX12_honestly_176 ?_
          obtain rfl := so hf0
          exact r_iret C dX12_honestly_177
        · rw [if_neg c21] at hf1
          refine r_aload_n C dX12_honestly_123 rfl ?_
          refine r_iload C dX12_honestly_124 rfl ?_
          obtain ⟨u23, e22, hf1⟩ := ob hf1
          obtain ⟨h24, e25, hf1⟩ := ob hf1
          refine r_cV (ci := 12) (rest := []) (st2 := []) C (s_X12_meansBy e25) mk_X12_meansBy rfl (ck_k e22) (by decide) im_X12_meansBy sl_X12_meansBy lk_X12_346 rfl rfl rfl dX12_honestly_126 (Nat.le_of_ble_eq_true rfl) ⟨Nat.le_of_ble_eq_true rfl, Nat.le_of_ble_eq_true rfl⟩ ⟨Nat.le_of_ble_eq_true rfl, Nat.le_of_ble_eq_true rfl⟩ ?_
          refine r_iload C dX12_honestly_129 rfl ?_
          refine r_iconst (v := 2) C dX12_honestly_131 (by decide) ?_
          refine r_iload_n C dX12_honestly_132 rfl ?_
          refine r_imul C dX12_honestly_133 ?_
          refine r_icmp_eq (tgt := 168) C dX12_honestly_134 (by decide) (fun c26 => ?_) (fun c26 => ?_)
          · rw [if_pos c26] at hf1
            exact J168 h24 t6 hf1
          · rw [if_neg c26] at hf1
            refine r_aload_n C dX12_honestly_137 rfl ?_
            obtain ⟨u28, e27, hf1⟩ := ob hf1
            obtain ⟨t29, e30, hf1⟩ := ob hf1
            refine r_cV (ci := 12) (rest := []) (st2 := [.int t29]) C (s_X12_isMeant e30) mk_X12_isMeant rfl (ck_k e27) (by decide) im_X12_isMeant sl_X12_isMeant lk_X12_349 rfl rfl rfl dX12_honestly_138 (Nat.le_of_ble_eq_true rfl) ⟨Nat.le_of_ble_eq_true rfl, Nat.le_of_ble_eq_true rfl⟩ ⟨Nat.le_of_ble_eq_true rfl, Nat.le_of_ble_eq_true rfl⟩ ?_
            refine r_ifne (tgt := 147) C dX12_honestly_141 (by decide) (fun c31 => ?_) (fun c31 => ?_)
            · rw [if_neg c31] at hf1
              refine r_aload_n C dX12_honestly_147 rfl ?_
              refine r_iload_n C dX12_honestly_148 rfl ?_
              obtain ⟨u33, e32, hf1⟩ := ob hf1
              obtain ⟨t34, e35, hf1⟩ := ob hf1
              refine r_cV (ci := 12) (rest := []) (st2 := [.int t34]) C (s_X12_liesTo e35) mk_X12_liesTo rfl (ck_k e32) (by decide) im_X12_liesTo sl_X12_liesTo lk_X12_352 rfl rfl rfl dX12_honestly_149 (Nat.le_of_ble_eq_true rfl) ⟨Nat.le_of_ble_eq_true rfl, Nat.le_of_ble_eq_true rfl⟩ ⟨Nat.le_of_ble_eq_true rfl, Nat.le_of_ble_eq_true rfl⟩ ?_
              refine r_iload_n C dX12_honestly_152 rfl ?_
              refine r_ifeq (tgt := 160) C dX12_honestly_153 (by decide) (fun c36 => ?_) (fun c36 => ?_)
              · rw [if_pos c36] at hf1
                refine r_iconst (v := 1) C dX12_honestly_160 (by decide) ?_
                exact J161 h24 t6 t34 (1 : Int32) hf1
              · rw [if_neg c36] at hf1
                refine r_iconst (v := 2) C dX12_honestly_156 (by decide) ?_
                refine r_goto (tgt := 161) C dX12_honestly_157 (by decide) ?_
                exact J161 h24 t6 t34 (2 : Int32) hf1
            · rw [if_pos c31] at hf1
              refine r_goto (tgt := 168) C dX12_honestly_144 (by decide) ?_
              exact J168 h24 t6 hf1
    refine r_subk [1, 2, 3, 0] (lv' := [(0, .ref t2), (1, .int t3), (2, .int t4), (4, .int (0 : Int32))]) rfl ?_
    exact L110 wN (0 : Int32) h1 hl110
  refine r_iconst (v := 1) C dX12_honestly_0 (by decide) ?_
  refine r_istore_n (lv' := [(2, .int (1 : Int32)), (0, .ref v0), (1, .int v1)]) C dX12_honestly_1 (by decide) rfl rfl ?_
  refine r_iconst (v := 1) C dX12_honestly_2 (by decide) ?_
  refine r_istore_n (lv' := [(3, .int (1 : Int32)), (2, .int (1 : Int32)), (0, .ref v0), (1, .int v1)]) C dX12_honestly_3 (by decide) rfl rfl ?_
  refine r_iconst (v := 0) C dX12_honestly_4 (by decide) ?_
  refine r_istore (lv' := [(4, .int (0 : Int32)), (3, .int (1 : Int32)), (2, .int (1 : Int32)), (0, .ref v0), (1, .int v1)]) C dX12_honestly_5 (by decide) rfl rfl ?_
  obtain ⟨y37, y38, hl7, hf0⟩ := ob2 hf0
  have L7 : ∀ (n : Nat) (t39 : Int32) (t40 : Int32) (t41 : Int32), whileL n (fun q : Int32 × Int32 × Int32 => f_X12_honestly_b7 h v0 v1 q.1 q.2.1 q.2.2) (t39, t40, t41) = some (y37, y38) → gW p l e (rmO 1 0 0) s m args below meth c (MQ below (eQ D cA B Hb out.2 (some (.int out.1))) args s 0 0 (fun q => B ≤ q)) D cA B Hb 5 h 7 [(0, .ref v0), (1, .int v1), (2, .int t39), (3, .int t40), (4, .int t41)] [] 0 0 := by
    intro n
    induction n with
    | zero => intro t39 t40 t41 hz; cases hz
    | succ n ih7 =>
      intro t39 t40 t41 hz
      obtain ⟨x7, hf1, hk7⟩ := wl hz
      replace hf1 : f_X12_honestly_b7 h v0 v1 t39 t40 t41 = some x7 := hf1
      unfold f_X12_honestly_b7 at hf1
      have J88 : ∀ (t42 : Int32) (t43 : Int32) (t44 : Int32), f_X12_honestly_j88 h v0 v1 t42 t43 t44 = some x7 → gW p l e (rmO 1 0 0) s m args below meth c (MQ below (eQ D cA B Hb out.2 (some (.int out.1))) args s 0 0 (fun q => B ≤ q)) D cA B Hb 5 h 88 [(0, .ref v0), (1, .int v1), (2, .int t42), (4, .int t43)] [.int t44] 0 0 := by
        intro t42 t43 t44 hf1
        unfold f_X12_honestly_j88 at hf1
        refine r_istore_n (lv' := [(3, .int t44), (0, .ref v0), (1, .int v1), (2, .int t42), (4, .int t43)]) C dX12_honestly_88 (by decide) rfl rfl ?_
        obtain ⟨t45, e46, hf1⟩ := ob hf1
        refine r_iinc (lv' := [(4, .int t45), (3, .int t44), (0, .ref v0), (1, .int v1), (2, .int t42)]) C dX12_honestly_89 rfl e46 (by decide) rfl ?_
        refine r_goto (tgt := 7) C dX12_honestly_92 (by decide) ?_
        obtain rfl := so hf1
        refine r_subk [2, 3, 4, 1, 0] (lv' := [(0, .ref v0), (1, .int v1), (2, .int t42), (3, .int t44), (4, .int t45)]) rfl ?_
        exact ih7 t42 t44 t45 hk7
      have J87 : ∀ (t47 : Int32) (t48 : Int32), f_X12_honestly_j87 h v0 v1 t47 t48 = some x7 → gW p l e (rmO 1 0 0) s m args below meth c (MQ below (eQ D cA B Hb out.2 (some (.int out.1))) args s 0 0 (fun q => B ≤ q)) D cA B Hb 5 h 87 [(0, .ref v0), (1, .int v1), (2, .int t47), (4, .int t48)] [] 0 0 := by
        intro t47 t48 hf1
        unfold f_X12_honestly_j87 at hf1
        refine r_iconst (v := 0) C dX12_honestly_87 (by decide) ?_
        exact J88 t47 t48 (0 : Int32) hf1
      have J52 : ∀ (t49 : Int32) (t50 : Int32) (t51 : Int32), f_X12_honestly_j52 h v0 v1 t49 t50 t51 = some x7 → gW p l e (rmO 1 0 0) s m args below meth c (MQ below (eQ D cA B Hb out.2 (some (.int out.1))) args s 0 0 (fun q => B ≤ q)) D cA B Hb 5 h 52 [(0, .ref v0), (1, .int v1), (3, .int t49), (4, .int t50)] [.int t51] 0 0 := by
        intro t49 t50 t51 hf1
        unfold f_X12_honestly_j52 at hf1
        refine r_istore_n (lv' := [(2, .int t51), (0, .ref v0), (1, .int v1), (3, .int t49), (4, .int t50)]) C dX12_honestly_52 (by decide) rfl rfl ?_
        refine r_iload_n C dX12_honestly_53 rfl ?_
        refine r_ifeq (tgt := 87) C dX12_honestly_54 (by decide) (fun c52 => ?_) (fun c52 => ?_)
        · rw [if_pos c52] at hf1
          refine r_subk [1, 2, 0, 4] (lv' := [(0, .ref v0), (1, .int v1), (2, .int t51), (4, .int t50)]) rfl ?_
          exact J87 t51 t50 hf1
        · rw [if_neg c52] at hf1
          refine r_aload_n C dX12_honestly_57 rfl ?_
          obtain ⟨t53, e54, hf1⟩ := ob hf1
          refine r_getR C fk_X12_63 rfl dX12_honestly_58 e54 ?_
          refine r_iload C dX12_honestly_61 rfl ?_
          obtain ⟨t55, e56, hf1⟩ := ob hf1
          refine r_ldJ C dX12_honestly_63 e56 ?_
          refine r_aload_n C dX12_honestly_64 rfl ?_
          obtain ⟨t57, e58, hf1⟩ := ob hf1
          refine r_getR C fk_X12_13 rfl dX12_honestly_65 e58 ?_
          refine r_iconst (v := 4) C dX12_honestly_68 (by decide) ?_
          refine r_iconst (v := 4) C dX12_honestly_69 (by decide) ?_
          refine r_iload_n C dX12_honestly_70 rfl ?_
          refine r_imul C dX12_honestly_71 ?_
          refine r_iadd C dX12_honestly_72 ?_
          refine r_iload C dX12_honestly_73 rfl ?_
          refine r_iadd C dX12_honestly_75 ?_
          obtain ⟨t59, e60, hf1⟩ := ob hf1
          refine r_ldJ C dX12_honestly_76 e60 ?_
          refine r_land C dX12_honestly_77 ?_
          refine r_lconst (v := 0) C dX12_honestly_78 (by decide) ?_
          refine r_lcmp C dX12_honestly_79 ?_
          refine r_ifne (tgt := 87) C dX12_honestly_80 (by decide) (fun c61 => ?_) (fun c61 => ?_)
          · rw [if_neg c61] at hf1
            refine r_subk [1, 2, 0, 4] (lv' := [(0, .ref v0), (1, .int v1), (2, .int t51), (4, .int t50)]) rfl ?_
            exact J87 t51 t50 hf1
          · rw [if_pos c61] at hf1
            refine r_iconst (v := 1) C dX12_honestly_83 (by decide) ?_
            refine r_goto (tgt := 88) C dX12_honestly_84 (by decide) ?_
            refine r_subk [1, 2, 0, 4] (lv' := [(0, .ref v0), (1, .int v1), (2, .int t51), (4, .int t50)]) rfl ?_
            exact J88 t51 t50 (1 : Int32) hf1
      have J51 : ∀ (t62 : Int32) (t63 : Int32), f_X12_honestly_j51 h v0 v1 t62 t63 = some x7 → gW p l e (rmO 1 0 0) s m args below meth c (MQ below (eQ D cA B Hb out.2 (some (.int out.1))) args s 0 0 (fun q => B ≤ q)) D cA B Hb 5 h 51 [(0, .ref v0), (1, .int v1), (3, .int t62), (4, .int t63)] [] 0 0 := by
        intro t62 t63 hf1
        unfold f_X12_honestly_j51 at hf1
        refine r_iconst (v := 0) C dX12_honestly_51 (by decide) ?_
        exact J52 t62 t63 (0 : Int32) hf1
      refine r_iload C dX12_honestly_7 rfl ?_
      refine r_iconst (v := 4) C dX12_honestly_9 (by decide) ?_
      refine r_icmp_ge (tgt := 95) C dX12_honestly_10 (by decide) (fun c64 => ?_) (fun c64 => ?_)
      · rw [if_pos c64] at hf1
        obtain rfl := so hf1
        obtain ⟨rfl, rfl⟩ := so2 (show some (t39, t40) = some (y37, y38) from hk7)
        refine r_iload_n C dX12_honestly_95 rfl ?_
        refine r_ifne (tgt := 107) C dX12_honestly_96 (by decide) (fun c65 => ?_) (fun c65 => ?_)
        · rw [if_neg c65] at hf0
          refine r_subk [0, 1, 2] (lv' := [(0, .ref v0), (1, .int v1), (2, .int t39)]) rfl ?_
          exact J107 h v0 v1 t39 hf0
        · rw [if_pos c65] at hf0
          refine r_iload_n C dX12_honestly_99 rfl ?_
          refine r_ifne (tgt := 107) C dX12_honestly_100 (by decide) (fun c66 => ?_) (fun c66 => ?_)
          · rw [if_neg c66] at hf0
            refine r_subk [0, 1, 2] (lv' := [(0, .ref v0), (1, .int v1), (2, .int t39)]) rfl ?_
            exact J107 h v0 v1 t39 hf0
          · rw [if_pos c66] at hf0
            refine r_iconst (v := 2) C dX12_honestly_103 (by decide) ?_
            refine r_iload_n C dX12_honestly_104 rfl ?_
            refine r_imul C dX12_honestly_105 ?_
            obtain rfl := so hf0
            exact r_iret C dX12_honestly_106
      · rw [if_neg c64] at hf1
        refine r_iload_n C dX12_honestly_13 rfl ?_
        refine r_ifeq (tgt := 51) C dX12_honestly_14 (by decide) (fun c67 => ?_) (fun c67 => ?_)
        · rw [if_pos c67] at hf1
          refine r_subk [0, 1, 3, 4] (lv' := [(0, .ref v0), (1, .int v1), (3, .int t40), (4, .int t41)]) rfl ?_
          exact J51 t40 t41 hf1
        · rw [if_neg c67] at hf1
          refine r_aload_n C dX12_honestly_17 rfl ?_
          obtain ⟨t68, e69, hf1⟩ := ob hf1
          refine r_getR C fk_X12_63 rfl dX12_honestly_18 e69 ?_
          refine r_iload C dX12_honestly_21 rfl ?_
          obtain ⟨t70, e71, hf1⟩ := ob hf1
          refine r_ldJ C dX12_honestly_23 e71 ?_
          refine r_aload_n C dX12_honestly_24 rfl ?_
          obtain ⟨t72, e73, hf1⟩ := ob hf1
          refine r_getR C fk_X12_13 rfl dX12_honestly_25 e73 ?_
          refine r_iconst (v := 4) C dX12_honestly_28 (by decide) ?_
          refine r_iconst (v := 4) C dX12_honestly_29 (by decide) ?_
          refine r_iload_n C dX12_honestly_30 rfl ?_
          refine r_imul C dX12_honestly_31 ?_
          refine r_iadd C dX12_honestly_32 ?_
          refine r_iload C dX12_honestly_33 rfl ?_
          refine r_iadd C dX12_honestly_35 ?_
          obtain ⟨t74, e75, hf1⟩ := ob hf1
          refine r_ldJ C dX12_honestly_36 e75 ?_
          refine r_ldc2 (v := -1) C dX12_honestly_37 cl_X12_124 ?_
          refine r_lxor C dX12_honestly_40 ?_
          refine r_land C dX12_honestly_41 ?_
          refine r_lconst (v := 0) C dX12_honestly_42 (by decide) ?_
          refine r_lcmp C dX12_honestly_43 ?_
          refine r_ifne (tgt := 51) C dX12_honestly_44 (by decide) (fun c76 => ?_) (fun c76 => ?_)
          · rw [if_neg c76] at hf1
            refine r_subk [0, 1, 3, 4] (lv' := [(0, .ref v0), (1, .int v1), (3, .int t40), (4, .int t41)]) rfl ?_
            exact J51 t40 t41 hf1
          · rw [if_pos c76] at hf1
            refine r_iconst (v := 1) C dX12_honestly_47 (by decide) ?_
            refine r_goto (tgt := 52) C dX12_honestly_48 (by decide) ?_
            refine r_subk [0, 1, 3, 4] (lv' := [(0, .ref v0), (1, .int v1), (3, .int t40), (4, .int t41)]) rfl ?_
            exact J52 t40 t41 (1 : Int32) hf1
  refine r_subk [3, 4, 2, 1, 0] (lv' := [(0, .ref v0), (1, .int v1), (2, .int (1 : Int32)), (3, .int (1 : Int32)), (4, .int (0 : Int32))]) rfl ?_
  exact L7 wN (1 : Int32) (1 : Int32) (0 : Int32) hl7
def f_X12_otherwise_j48 (h : aH) (v0 : Nat) (v1 : Int32) (v2 : Int32) : Option ((Int32 × aH) ⊕ ((Int32 × aH) ⊕ (aH))) := (some (v2 + (1 : Int32))).bind fun t1 => some (.inl (t1, h))
def f_X12_otherwise_b2 (v0 : Nat) (v1 : Int32) (v2 : Int32) (h : aH) : Option ((Int32 × aH) ⊕ ((Int32 × aH) ⊕ (aH))) := (gR h 12 v0 0).bind fun t2 => (lI h t2 (3 : Int32)).bind fun t3 => if ((2 : Int32) * t3) ≤ v2 then some (.inr (.inr h)) else (nz (2 : Int32)).bind fun _ => if (v2 / (2 : Int32)) = v1 then f_X12_otherwise_j48 h v0 v1 v2 else (ck h 12 v0).bind fun _ => (f_X12_meansBy h v0 v2).bind fun h4 => (ck h4 12 v0).bind fun _ => (f_X12_isMeant h4 v0).bind fun t5 => if t5 = 0 then f_X12_otherwise_j48 h4 v0 v1 v2 else (ck h4 12 v0).bind fun _ => (f_X12_liesTo h4 v0 v1).bind fun t6 => if t6 = (7 : Int32) then some (.inr (.inl (v2, h4))) else f_X12_otherwise_j48 h4 v0 v1 v2
def f_X12_otherwise_l2 (v0 : Nat) (v1 : Int32) (v2 : Int32) (h : aH) : Option ((Int32 × aH) ⊕ (aH)) := whileL wN (fun q : Int32 × aH => f_X12_otherwise_b2 v0 v1 q.1 q.2) (v2, h)
def f_X12_otherwise (h : aH) (v0 : Nat) (v1 : Int32) : Option (Int32 × aH) := (f_X12_otherwise_l2 v0 v1 (0 : Int32) h).bind fun e => match e with | .inl (t7, h8) => some (t7, h8) | .inr h9 => some ((2 : Int32) * v1, h9)
theorem s_X12_otherwise {h : aH} {v0 : Nat} {v1 : Int32} {out : Int32 × aH} (hf0 : f_X12_otherwise h v0 v1 = some out) : EV 1 yX12_otherwise cX12_otherwise 3 (some .int) h [.ref v0, .int v1] (some (.int out.1)) out.2 0 0 := by
  refine EV.of (own := RX12) (lv0 := [(0, .ref v0), (1, .int v1)]) (by decide +kernel) rfl rfl (Nat.le_of_ble_eq_true rfl) ?_
  intro p l e s m args below meth c D cA B Hb C hin
  unfold f_X12_otherwise at hf0
  refine r_iconst (v := 0) C dX12_otherwise_0 (by decide) ?_
  refine r_istore_n (lv' := [(2, .int (0 : Int32)), (0, .ref v0), (1, .int v1)]) C dX12_otherwise_1 (by decide) rfl rfl ?_
  obtain ⟨y1, hl2, hf0⟩ := ob hf0
  have L2 : ∀ (n : Nat) (t2 : Int32) (h3 : aH), whileL n (fun q : Int32 × aH => f_X12_otherwise_b2 v0 v1 q.1 q.2) (t2, h3) = some y1 → gW p l e (rmO 1 0 0) s m args below meth c (MQ below (eQ D cA B Hb out.2 (some (.int out.1))) args s 0 0 (fun q => B ≤ q)) D cA B Hb 3 h3 2 [(0, .ref v0), (1, .int v1), (2, .int t2)] [] 0 0 := by
    intro n
    induction n with
    | zero => intro t2 h3 hz; cases hz
    | succ n ih2 =>
      intro t2 h3 hz
      obtain ⟨x2, hf1, hk2⟩ := wl hz
      replace hf1 : f_X12_otherwise_b2 v0 v1 t2 h3 = some x2 := hf1
      unfold f_X12_otherwise_b2 at hf1
      have J48 : ∀ (h4 : aH) (t5 : Int32), f_X12_otherwise_j48 h4 v0 v1 t5 = some x2 → gW p l e (rmO 1 0 0) s m args below meth c (MQ below (eQ D cA B Hb out.2 (some (.int out.1))) args s 0 0 (fun q => B ≤ q)) D cA B Hb 3 h4 48 [(0, .ref v0), (1, .int v1), (2, .int t5)] [] 0 0 := by
        intro h4 t5 hf1
        unfold f_X12_otherwise_j48 at hf1
        obtain ⟨t6, e7, hf1⟩ := ob hf1
        refine r_iinc (lv' := [(2, .int t6), (0, .ref v0), (1, .int v1)]) C dX12_otherwise_48 rfl e7 (by decide) rfl ?_
        refine r_goto (tgt := 2) C dX12_otherwise_51 (by decide) ?_
        obtain rfl := so hf1
        refine r_subk [1, 2, 0] (lv' := [(0, .ref v0), (1, .int v1), (2, .int t6)]) rfl ?_
        exact ih2 t6 h4 hk2
      refine r_iload_n C dX12_otherwise_2 rfl ?_
      refine r_iconst (v := 2) C dX12_otherwise_3 (by decide) ?_
      refine r_aload_n C dX12_otherwise_4 rfl ?_
      obtain ⟨t8, e9, hf1⟩ := ob hf1
      refine r_getR C fk_X12_7 rfl dX12_otherwise_5 e9 ?_
      refine r_iconst (v := 3) C dX12_otherwise_8 (by decide) ?_
      obtain ⟨t10, e11, hf1⟩ := ob hf1
      refine r_ldI C dX12_otherwise_9 e11 ?_
      refine r_imul C dX12_otherwise_10 ?_
      refine r_icmp_ge (tgt := 54) C dX12_otherwise_11 (by decide) (fun c12 => ?_) (fun c12 => ?_)
      · rw [if_pos c12] at hf1
        obtain rfl := so hf1
        obtain rfl := so (show some (.inr h3 : (Int32 × aH) ⊕ (aH)) = some y1 from hk2)
        dsimp only at hf0
        refine r_iconst (v := 2) C dX12_otherwise_54 (by decide) ?_
        refine r_iload_n C dX12_otherwise_55 rfl ?_
        refine r_imul C dX12_otherwise_56 ?_
        obtain rfl := so hf0
        exact r_iret C dX12_otherwise_57
      · rw [if_neg c12] at hf1
        refine r_iload_n C dX12_otherwise_14 rfl ?_
        refine r_iconst (v := 2) C dX12_otherwise_15 (by decide) ?_
        obtain ⟨u14, e13, hf1⟩ := ob hf1
        refine r_idiv C dX12_otherwise_16 (nz_k e13) ?_
        refine r_iload_n C dX12_otherwise_17 rfl ?_
        refine r_icmp_ne (tgt := 24) C dX12_otherwise_18 (by decide) (fun c15 => ?_) (fun c15 => ?_)
        · rw [if_neg c15] at hf1
          refine r_aload_n C dX12_otherwise_24 rfl ?_
          refine r_iload_n C dX12_otherwise_25 rfl ?_
          obtain ⟨u17, e16, hf1⟩ := ob hf1
          obtain ⟨h18, e19, hf1⟩ := ob hf1
          refine r_cV (ci := 12) (rest := []) (st2 := []) C (s_X12_meansBy e19) mk_X12_meansBy rfl (ck_k e16) (by decide) im_X12_meansBy sl_X12_meansBy lk_X12_346 rfl rfl rfl dX12_otherwise_26 (Nat.le_of_ble_eq_true rfl) ⟨Nat.le_of_ble_eq_true rfl, Nat.le_of_ble_eq_true rfl⟩ ⟨Nat.le_of_ble_eq_true rfl, Nat.le_of_ble_eq_true rfl⟩ ?_
          refine r_aload_n C dX12_otherwise_29 rfl ?_
          obtain ⟨u21, e20, hf1⟩ := ob hf1
          obtain ⟨t22, e23, hf1⟩ := ob hf1
          refine r_cV (ci := 12) (rest := []) (st2 := [.int t22]) C (s_X12_isMeant e23) mk_X12_isMeant rfl (ck_k e20) (by decide) im_X12_isMeant sl_X12_isMeant lk_X12_349 rfl rfl rfl dX12_otherwise_30 (Nat.le_of_ble_eq_true rfl) ⟨Nat.le_of_ble_eq_true rfl, Nat.le_of_ble_eq_true rfl⟩ ⟨Nat.le_of_ble_eq_true rfl, Nat.le_of_ble_eq_true rfl⟩ ?_
          refine r_ifeq (tgt := 48) C dX12_otherwise_33 (by decide) (fun c24 => ?_) (fun c24 => ?_)
          · rw [if_pos c24] at hf1
            exact J48 h18 t2 hf1
          · rw [if_neg c24] at hf1
            refine r_aload_n C dX12_otherwise_36 rfl ?_
            refine r_iload_n C dX12_otherwise_37 rfl ?_
            obtain ⟨u26, e25, hf1⟩ := ob hf1
            obtain ⟨t27, e28, hf1⟩ := ob hf1
            refine r_cV (ci := 12) (rest := []) (st2 := [.int t27]) C (s_X12_liesTo e28) mk_X12_liesTo rfl (ck_k e25) (by decide) im_X12_liesTo sl_X12_liesTo lk_X12_352 rfl rfl rfl dX12_otherwise_38 (Nat.le_of_ble_eq_true rfl) ⟨Nat.le_of_ble_eq_true rfl, Nat.le_of_ble_eq_true rfl⟩ ⟨Nat.le_of_ble_eq_true rfl, Nat.le_of_ble_eq_true rfl⟩ ?_
            refine r_bipush (v := 7) C dX12_otherwise_41 (by decide) ?_
            refine r_icmp_ne (tgt := 48) C dX12_otherwise_43 (by decide) (fun c29 => ?_) (fun c29 => ?_)
            · rw [if_neg c29] at hf1
              exact J48 h18 t2 hf1
            · rw [if_pos c29] at hf1
              obtain rfl := so hf1
              obtain rfl := so (show some (.inl (t2, h18) : (Int32 × aH) ⊕ (aH)) = some y1 from hk2)
              dsimp only at hf0
              refine r_iload_n C dX12_otherwise_46 rfl ?_
              obtain rfl := so hf0
              exact r_iret C dX12_otherwise_47
        · rw [if_pos c15] at hf1
          refine r_goto (tgt := 48) C dX12_otherwise_21 (by decide) ?_
          exact J48 h3 t2 hf1
  refine r_subk [1, 2, 0] (lv' := [(0, .ref v0), (1, .int v1), (2, .int (0 : Int32))]) rfl ?_
  exact L2 wN (0 : Int32) h hl2
def f_X12_laysAnswers_j199 (h : aH) (v0 : Nat) (v1 : Int32) (v2 : Int32) : Option ((Int32 × aH) ⊕ (aH)) := (some (v2 + (1 : Int32))).bind fun t3 => some (.inl (t3, h))
def f_X12_laysAnswers_j180 (h : aH) (v0 : Nat) (v1 : Int32) (v2 : Int32) (v3 : Int32) (v4 : Int32) (s0 : Nat) (s1 : Int32) (s2 : Int32) : Option ((Int32 × aH) ⊕ (aH)) := (sI h s0 s1 s2).bind fun h8 => (gR h8 12 v0 31).bind fun t9 => (sI h8 t9 (v4 + (3 : Int32)) ((2 : Int32) * v3)).bind fun h10 => (some (v3 + (1 : Int32))).bind fun t11 => some (.inl (t11, h10))
def f_X12_laysAnswers_j136 (h : aH) (v0 : Nat) (v1 : Int32) (v2 : Int32) (v3 : Int32) (v4 : Int32) (v5 : Int32) (v6 : Int32) (s0 : Nat) (s1 : Int32) (s2 : Int32) : Option ((Int32 × aH) ⊕ (aH)) := (sI h s0 s1 s2).bind fun h12 => (gR h12 12 v0 31).bind fun t13 => if v6 = 0 then if v5 = ((2 : Int32) * v3) then f_X12_laysAnswers_j180 h12 v0 v1 v2 v3 v4 t13 (v4 + (1 : Int32)) ((2 : Int32) * v3) else f_X12_laysAnswers_j180 h12 v0 v1 v2 v3 v4 t13 (v4 + (1 : Int32)) (v5 ^^^ (1 : Int32)) else (gR h12 12 v0 31).bind fun t14 => (lI h12 t14 (v4 + (2 : Int32))).bind fun t15 => f_X12_laysAnswers_j180 h12 v0 v1 v2 v3 v4 t13 (v4 + (1 : Int32)) t15
def f_X12_laysAnswers_j95 (h : aH) (v0 : Nat) (v1 : Int32) (v2 : Int32) (v3 : Int32) (v4 : Int32) (v5 : Int32) (s0 : Int32) : Option ((Int32 × aH) ⊕ (aH)) := (gR h 12 v0 31).bind fun t16 => (ck h 12 v0).bind fun _ => bd2 (f_X12_otherwise h v0 v3) fun t17 h18 => (sI h18 t16 (v4 + (2 : Int32)) t17).bind fun h19 => (gR h19 12 v0 31).bind fun t20 => if s0 = 0 then f_X12_laysAnswers_j136 h19 v0 v1 v2 v3 v4 v5 s0 t20 v4 v5 else (gR h19 12 v0 31).bind fun t21 => (lI h19 t21 (v4 + (2 : Int32))).bind fun t22 => f_X12_laysAnswers_j136 h19 v0 v1 v2 v3 v4 v5 s0 t20 v4 t22
def f_X12_laysAnswers_b43 (v0 : Nat) (v1 : Int32) (v2 : Int32) (v3 : Int32) (h : aH) : Option ((Int32 × aH) ⊕ (aH)) := (gR h 12 v0 0).bind fun t23 => (lI h t23 (3 : Int32)).bind fun t24 => if t24 ≤ v3 then some (.inr h) else (some ((4 : Int32) * (((256 : Int32) * (((12 : Int32) * v1) + v3)) + v2))).bind fun t25 => (ck h 12 v0).bind fun _ => bd2 (f_X12_honestly h v0 v3) fun t26 h27 => (ck h27 12 v0).bind fun _ => (f_X12_ofWitness h27 v0 v1 (5 : Int32)).bind fun t28 => if ((t28 >>> (v3 &&& 31)) &&& (1 : Int32)) = (1 : Int32) then f_X12_laysAnswers_j95 h27 v0 v1 v2 v3 t25 t26 (1 : Int32) else f_X12_laysAnswers_j95 h27 v0 v1 v2 v3 t25 t26 (0 : Int32)
def f_X12_laysAnswers_l43 (v0 : Nat) (v1 : Int32) (v2 : Int32) (v3 : Int32) (h : aH) : Option (aH) := whileL wN (fun q : Int32 × aH => f_X12_laysAnswers_b43 v0 v1 v2 q.1 q.2) (v3, h)
def f_X12_laysAnswers_b14 (v0 : Nat) (v1 : Int32) (v2 : Int32) (h : aH) : Option ((Int32 × aH) ⊕ (aH)) := (gR h 12 v0 0).bind fun t4 => (lI h t4 (2 : Int32)).bind fun t5 => if t5 ≤ v2 then some (.inr h) else (ck h 12 v0).bind fun _ => (f_X12_isPossible h v0 v2).bind fun t6 => if t6 = 0 then f_X12_laysAnswers_j199 h v0 v1 v2 else (ck h 12 v0).bind fun _ => (f_X12_knowsIn h v0 v1 v2).bind fun h7 => (f_X12_laysAnswers_l43 v0 v1 v2 (0 : Int32) h7).bind fun h29 => f_X12_laysAnswers_j199 h29 v0 v1 v2
def f_X12_laysAnswers_l14 (v0 : Nat) (v1 : Int32) (v2 : Int32) (h : aH) : Option (aH) := whileL wN (fun q : Int32 × aH => f_X12_laysAnswers_b14 v0 v1 q.1 q.2) (v2, h)
def f_X12_laysAnswers_b2 (v0 : Nat) (v1 : Int32) (h : aH) : Option ((Int32 × aH) ⊕ (aH)) := (gR h 12 v0 0).bind fun t1 => (lI h t1 (4 : Int32)).bind fun t2 => if t2 ≤ v1 then some (.inr h) else (f_X12_laysAnswers_l14 v0 v1 (0 : Int32) h).bind fun h30 => (some (v1 + (1 : Int32))).bind fun t31 => some (.inl (t31, h30))
def f_X12_laysAnswers_l2 (v0 : Nat) (v1 : Int32) (h : aH) : Option (aH) := whileL wN (fun q : Int32 × aH => f_X12_laysAnswers_b2 v0 q.1 q.2) (v1, h)
def f_X12_laysAnswers (h : aH) (v0 : Nat) : Option (aH) := (f_X12_laysAnswers_l2 v0 (0 : Int32) h).bind fun h32 => some h32
theorem s_X12_laysAnswers {h : aH} {v0 : Nat} {out : aH} (hf0 : f_X12_laysAnswers h v0 = some out) : EV 3 yX12_laysAnswers cX12_laysAnswers 7 none h [.ref v0] none out 0 0 := by
  refine EV.of (own := RX12) (lv0 := [(0, .ref v0)]) (by decide +kernel) rfl rfl (Nat.le_of_ble_eq_true rfl) ?_
  intro p l e s m args below meth c D cA B Hb C hin
  unfold f_X12_laysAnswers at hf0
  refine r_iconst (v := 0) C dX12_laysAnswers_0 (by decide) ?_
  refine r_istore_n (lv' := [(1, .int (0 : Int32)), (0, .ref v0)]) C dX12_laysAnswers_1 (by decide) rfl rfl ?_
  obtain ⟨y1, hl2, hf0⟩ := ob hf0
  have L2 : ∀ (n : Nat) (t2 : Int32) (h3 : aH), whileL n (fun q : Int32 × aH => f_X12_laysAnswers_b2 v0 q.1 q.2) (t2, h3) = some y1 → gW p l e (rmO 3 0 0) s m args below meth c (MQ below (eQ D cA B Hb out none) args s 0 0 (fun q => B ≤ q)) D cA B Hb 7 h3 2 [(0, .ref v0), (1, .int t2)] [] 0 0 := by
    intro n
    induction n with
    | zero => intro t2 h3 hz; cases hz
    | succ n ih2 =>
      intro t2 h3 hz
      obtain ⟨x2, hf1, hk2⟩ := wl hz
      replace hf1 : f_X12_laysAnswers_b2 v0 t2 h3 = some x2 := hf1
      unfold f_X12_laysAnswers_b2 at hf1
      refine r_iload_n C dX12_laysAnswers_2 rfl ?_
      refine r_aload_n C dX12_laysAnswers_3 rfl ?_
      obtain ⟨t4, e5, hf1⟩ := ob hf1
      refine r_getR C fk_X12_7 rfl dX12_laysAnswers_4 e5 ?_
      refine r_iconst (v := 4) C dX12_laysAnswers_7 (by decide) ?_
      obtain ⟨t6, e7, hf1⟩ := ob hf1
      refine r_ldI C dX12_laysAnswers_8 e7 ?_
      refine r_icmp_ge (tgt := 211) C dX12_laysAnswers_9 (by decide) (fun c8 => ?_) (fun c8 => ?_)
      · rw [if_pos c8] at hf1
        obtain rfl := so hf1
        obtain rfl := so (show some h3 = some y1 from hk2)
        obtain rfl := so hf0
        exact r_vret C dX12_laysAnswers_211
      · rw [if_neg c8] at hf1
        refine r_iconst (v := 0) C dX12_laysAnswers_12 (by decide) ?_
        refine r_istore_n (lv' := [(2, .int (0 : Int32)), (0, .ref v0), (1, .int t2)]) C dX12_laysAnswers_13 (by decide) rfl rfl ?_
        obtain ⟨y9, hl14, hf1⟩ := ob hf1
        have L14 : ∀ (n : Nat) (t10 : Int32) (h11 : aH), whileL n (fun q : Int32 × aH => f_X12_laysAnswers_b14 v0 t2 q.1 q.2) (t10, h11) = some y9 → gW p l e (rmO 3 0 0) s m args below meth c (MQ below (eQ D cA B Hb out none) args s 0 0 (fun q => B ≤ q)) D cA B Hb 7 h11 14 [(0, .ref v0), (1, .int t2), (2, .int t10)] [] 0 0 := by
          intro n
          induction n with
          | zero => intro t10 h11 hz; cases hz
          | succ n ih14 =>
            intro t10 h11 hz
            obtain ⟨x14, hf2, hk14⟩ := wl hz
            replace hf2 : f_X12_laysAnswers_b14 v0 t2 t10 h11 = some x14 := hf2
            unfold f_X12_laysAnswers_b14 at hf2
            have J199 : ∀ (h12 : aH) (t13 : Int32), f_X12_laysAnswers_j199 h12 v0 t2 t13 = some x14 → gW p l e (rmO 3 0 0) s m args below meth c (MQ below (eQ D cA B Hb out none) args s 0 0 (fun q => B ≤ q)) D cA B Hb 7 h12 199 [(0, .ref v0), (1, .int t2), (2, .int t13)] [] 0 0 := by
              intro h12 t13 hf2
              unfold f_X12_laysAnswers_j199 at hf2
              obtain ⟨t14, e15, hf2⟩ := ob hf2
              refine r_iinc (lv' := [(2, .int t14), (0, .ref v0), (1, .int t2)]) C dX12_laysAnswers_199 rfl e15 (by decide) rfl ?_
              refine r_goto (tgt := 14) C dX12_laysAnswers_202 (by decide) ?_
              obtain rfl := so hf2
              refine r_subk [1, 2, 0] (lv' := [(0, .ref v0), (1, .int t2), (2, .int t14)]) rfl ?_
              exact ih14 t14 h12 hk14
            refine r_iload_n C dX12_laysAnswers_14 rfl ?_
            refine r_aload_n C dX12_laysAnswers_15 rfl ?_
            obtain ⟨t16, e17, hf2⟩ := ob hf2
            refine r_getR C fk_X12_7 rfl dX12_laysAnswers_16 e17 ?_
            refine r_iconst (v := 2) C dX12_laysAnswers_19 (by decide) ?_
            obtain ⟨t18, e19, hf2⟩ := ob hf2
            refine r_ldI C dX12_laysAnswers_20 e19 ?_
            refine r_icmp_ge (tgt := 205) C dX12_laysAnswers_21 (by decide) (fun c20 => ?_) (fun c20 => ?_)
            · rw [if_pos c20] at hf2
              obtain rfl := so hf2
              obtain rfl := so (show some h11 = some y9 from hk14)
              obtain ⟨t21, e22, hf1⟩ := ob hf1
              refine r_iinc (lv' := [(1, .int t21), (0, .ref v0), (2, .int t10)]) C dX12_laysAnswers_205 rfl e22 (by decide) rfl ?_
              refine r_goto (tgt := 2) C dX12_laysAnswers_208 (by decide) ?_
              obtain rfl := so hf1
              refine r_subk [1, 0] (lv' := [(0, .ref v0), (1, .int t21)]) rfl ?_
              exact ih2 t21 h11 hk2
            · rw [if_neg c20] at hf2
              refine r_aload_n C dX12_laysAnswers_24 rfl ?_
              refine r_iload_n C dX12_laysAnswers_25 rfl ?_
              obtain ⟨u24, e23, hf2⟩ := ob hf2
              obtain ⟨t25, e26, hf2⟩ := ob hf2
              refine r_cV (ci := 12) (rest := []) (st2 := [.int t25]) C (s_X12_isPossible e26) mk_X12_isPossible rfl (ck_k e23) (by decide) im_X12_isPossible sl_X12_isPossible lk_X12_331 rfl rfl rfl dX12_laysAnswers_26 (Nat.le_of_ble_eq_true rfl) ⟨Nat.le_of_ble_eq_true rfl, Nat.le_of_ble_eq_true rfl⟩ ⟨Nat.le_of_ble_eq_true rfl, Nat.le_of_ble_eq_true rfl⟩ ?_
              refine r_ifne (tgt := 35) C dX12_laysAnswers_29 (by decide) (fun c27 => ?_) (fun c27 => ?_)
              · rw [if_neg c27] at hf2
                refine r_aload_n C dX12_laysAnswers_35 rfl ?_
                refine r_iload_n C dX12_laysAnswers_36 rfl ?_
                refine r_iload_n C dX12_laysAnswers_37 rfl ?_
                obtain ⟨u29, e28, hf2⟩ := ob hf2
                obtain ⟨h30, e31, hf2⟩ := ob hf2
                refine r_cV (ci := 12) (rest := []) (st2 := []) C (s_X12_knowsIn e31) mk_X12_knowsIn rfl (ck_k e28) (by decide) im_X12_knowsIn sl_X12_knowsIn lk_X12_355 rfl rfl rfl dX12_laysAnswers_38 (Nat.le_of_ble_eq_true rfl) ⟨Nat.le_of_ble_eq_true rfl, Nat.le_of_ble_eq_true rfl⟩ ⟨Nat.le_of_ble_eq_true rfl, Nat.le_of_ble_eq_true rfl⟩ ?_
                refine r_iconst (v := 0) C dX12_laysAnswers_41 (by decide) ?_
                refine r_istore_n (lv' := [(3, .int (0 : Int32)), (0, .ref v0), (1, .int t2), (2, .int t10)]) C dX12_laysAnswers_42 (by decide) rfl rfl ?_
                obtain ⟨y32, hl43, hf2⟩ := ob hf2
                have L43 : ∀ (n : Nat) (t33 : Int32) (h34 : aH), whileL n (fun q : Int32 × aH => f_X12_laysAnswers_b43 v0 t2 t10 q.1 q.2) (t33, h34) = some y32 → gW p l e (rmO 3 0 0) s m args below meth c (MQ below (eQ D cA B Hb out none) args s 0 0 (fun q => B ≤ q)) D cA B Hb 7 h34 43 [(0, .ref v0), (1, .int t2), (2, .int t10), (3, .int t33)] [] 0 0 := by
                  intro n
                  induction n with
                  | zero => intro t33 h34 hz; cases hz
                  | succ n ih43 =>
                    intro t33 h34 hz
                    obtain ⟨x43, hf3, hk43⟩ := wl hz
                    replace hf3 : f_X12_laysAnswers_b43 v0 t2 t10 t33 h34 = some x43 := hf3
                    unfold f_X12_laysAnswers_b43 at hf3
                    have J180 : ∀ (h35 : aH) (t36 : Int32) (t37 : Int32) (t38 : Nat) (t39 : Int32) (t40 : Int32), f_X12_laysAnswers_j180 h35 v0 t2 t10 t36 t37 t38 t39 t40 = some x43 → gW p l e (rmO 3 0 0) s m args below meth c (MQ below (eQ D cA B Hb out none) args s 0 0 (fun q => B ≤ q)) D cA B Hb 7 h35 180 [(0, .ref v0), (1, .int t2), (2, .int t10), (3, .int t36), (4, .int t37)] [.int t40, .int t39, .ref t38] 0 0 := by
                      intro h35 t36 t37 t38 t39 t40 hf3
                      unfold f_X12_laysAnswers_j180 at hf3
                      obtain ⟨h41, e42, hf3⟩ := ob hf3
                      refine r_stI C dX12_laysAnswers_180 e42 ?_
                      refine r_aload_n C dX12_laysAnswers_181 rfl ?_
                      obtain ⟨t43, e44, hf3⟩ := ob hf3
                      refine r_getR C fk_X12_60 rfl dX12_laysAnswers_182 e44 ?_
                      refine r_iload C dX12_laysAnswers_185 rfl ?_
                      refine r_iconst (v := 3) C dX12_laysAnswers_187 (by decide) ?_
                      refine r_iadd C dX12_laysAnswers_188 ?_
                      refine r_iconst (v := 2) C dX12_laysAnswers_189 (by decide) ?_
                      refine r_iload_n C dX12_laysAnswers_190 rfl ?_
                      refine r_imul C dX12_laysAnswers_191 ?_
                      obtain ⟨h45, e46, hf3⟩ := ob hf3
                      refine r_stI C dX12_laysAnswers_192 e46 ?_
                      obtain ⟨t47, e48, hf3⟩ := ob hf3
                      refine r_iinc (lv' := [(3, .int t47), (0, .ref v0), (1, .int t2), (2, .int t10), (4, .int t37)]) C dX12_laysAnswers_193 rfl e48 (by decide) rfl ?_
                      refine r_goto (tgt := 43) C dX12_laysAnswers_196 (by decide) ?_
                      obtain rfl := so hf3
                      refine r_subk [1, 2, 3, 0] (lv' := [(0, .ref v0), (1, .int t2), (2, .int t10), (3, .int t47)]) rfl ?_
                      exact ih43 t47 h45 hk43
                    have J136 : ∀ (h49 : aH) (t50 : Int32) (t51 : Int32) (t52 : Int32) (t53 : Int32) (t54 : Nat) (t55 : Int32) (t56 : Int32), f_X12_laysAnswers_j136 h49 v0 t2 t10 t50 t51 t52 t53 t54 t55 t56 = some x43 → gW p l e (rmO 3 0 0) s m args below meth c (MQ below (eQ D cA B Hb out none) args s 0 0 (fun q => B ≤ q)) D cA B Hb 7 h49 136 [(0, .ref v0), (1, .int t2), (2, .int t10), (3, .int t50), (4, .int t51), (5, .int t52), (6, .int t53)] [.int t56, .int t55, .ref t54] 0 0 := by
                      intro h49 t50 t51 t52 t53 t54 t55 t56 hf3
                      unfold f_X12_laysAnswers_j136 at hf3
                      obtain ⟨h57, e58, hf3⟩ := ob hf3
                      refine r_stI C dX12_laysAnswers_136 e58 ?_
                      refine r_aload_n C dX12_laysAnswers_137 rfl ?_
                      obtain ⟨t59, e60, hf3⟩ := ob hf3
                      refine r_getR C fk_X12_60 rfl dX12_laysAnswers_138 e60 ?_
                      refine r_iload C dX12_laysAnswers_141 rfl ?_
                      refine r_iconst (v := 1) C dX12_laysAnswers_143 (by decide) ?_
                      refine r_iadd C dX12_laysAnswers_144 ?_
                      refine r_iload C dX12_laysAnswers_145 rfl ?_
                      refine r_ifeq (tgt := 162) C dX12_laysAnswers_147 (by decide) (fun c61 => ?_) (fun c61 => ?_)
                      · rw [if_pos c61] at hf3
                        refine r_iload C dX12_laysAnswers_162 rfl ?_
                        refine r_iconst (v := 2) C dX12_laysAnswers_164 (by decide) ?_
                        refine r_iload_n C dX12_laysAnswers_165 rfl ?_
                        refine r_imul C dX12_laysAnswers_166 ?_
                        refine r_icmp_ne (tgt := 176) C dX12_laysAnswers_167 (by decide) (fun c62 => ?_) (fun c62 => ?_)
                        · rw [if_neg c62] at hf3
                          refine r_iload C dX12_laysAnswers_176 rfl ?_
                          refine r_iconst (v := 1) C dX12_laysAnswers_178 (by decide) ?_
                          refine r_ixor C dX12_laysAnswers_179 ?_
                          refine r_subk [0, 1, 2, 3, 4] (lv' := [(0, .ref v0), (1, .int t2), (2, .int t10), (3, .int t50), (4, .int t51)]) rfl ?_
                          exact J180 h57 t50 t51 t59 (t51 + (1 : Int32)) (t52 ^^^ (1 : Int32)) hf3
                        · rw [if_pos c62] at hf3
                          refine r_iconst (v := 2) C dX12_laysAnswers_170 (by decide) ?_
                          refine r_iload_n C dX12_laysAnswers_171 rfl ?_
                          refine r_imul C dX12_laysAnswers_172 ?_
                          refine r_goto (tgt := 180) C dX12_laysAnswers_173 (by decide) ?_
                          refine r_subk [0, 1, 2, 3, 4] (lv' := [(0, .ref v0), (1, .int t2), (2, .int t10), (3, .int t50), (4, .int t51)]) rfl ?_
                          exact J180 h57 t50 t51 t59 (t51 + (1 : Int32)) ((2 : Int32) * t50) hf3
                      · rw [if_neg c61] at hf3
                        refine r_aload_n C dX12_laysAnswers_150 rfl ?_
                        obtain ⟨t63, e64, hf3⟩ := ob hf3
                        refine r_getR C fk_X12_60 rfl dX12_laysAnswers_151 e64 ?_
                        refine r_iload C dX12_laysAnswers_154 rfl ?_
                        refine r_iconst (v := 2) C dX12_laysAnswers_156 (by decide) ?_
                        refine r_iadd C dX12_laysAnswers_157 ?_
                        obtain ⟨t65, e66, hf3⟩ := ob hf3
                        refine r_ldI C dX12_laysAnswers_158 e66 ?_
                        refine r_goto (tgt := 180) C dX12_laysAnswers_159 (by decide) ?_
                        refine r_subk [0, 1, 2, 3, 4] (lv' := [(0, .ref v0), (1, .int t2), (2, .int t10), (3, .int t50), (4, .int t51)]) rfl ?_
                        exact J180 h57 t50 t51 t59 (t51 + (1 : Int32)) t65 hf3
                    have J95 : ∀ (h67 : aH) (t68 : Int32) (t69 : Int32) (t70 : Int32) (t71 : Int32), f_X12_laysAnswers_j95 h67 v0 t2 t10 t68 t69 t70 t71 = some x43 → gW p l e (rmO 3 0 0) s m args below meth c (MQ below (eQ D cA B Hb out none) args s 0 0 (fun q => B ≤ q)) D cA B Hb 7 h67 95 [(0, .ref v0), (1, .int t2), (2, .int t10), (3, .int t68), (4, .int t69), (5, .int t70)] [.int t71] 0 0 := by
                      intro h67 t68 t69 t70 t71 hf3
                      unfold f_X12_laysAnswers_j95 at hf3
                      refine r_istore (lv' := [(6, .int t71), (0, .ref v0), (1, .int t2), (2, .int t10), (3, .int t68), (4, .int t69), (5, .int t70)]) C dX12_laysAnswers_95 (by decide) rfl rfl ?_
                      refine r_aload_n C dX12_laysAnswers_97 rfl ?_
                      obtain ⟨t72, e73, hf3⟩ := ob hf3
                      refine r_getR C fk_X12_60 rfl dX12_laysAnswers_98 e73 ?_
                      refine r_iload C dX12_laysAnswers_101 rfl ?_
                      refine r_iconst (v := 2) C dX12_laysAnswers_103 (by decide) ?_
                      refine r_iadd C dX12_laysAnswers_104 ?_
                      refine r_aload_n C dX12_laysAnswers_105 rfl ?_
                      refine r_iload_n C dX12_laysAnswers_106 rfl ?_
                      obtain ⟨u75, e74, hf3⟩ := ob hf3
                      obtain ⟨t76, h77, e78, hf3⟩ := ob2 hf3
                      refine r_cV (ci := 12) (rest := [.int (t69 + (2 : Int32)), .ref t72]) (st2 := [.int t76, .int (t69 + (2 : Int32)), .ref t72]) C (s_X12_otherwise e78) mk_X12_otherwise rfl (ck_k e74) (by decide) im_X12_otherwise sl_X12_otherwise lk_X12_362 rfl rfl rfl dX12_laysAnswers_107 (Nat.le_of_ble_eq_true rfl) ⟨Nat.le_of_ble_eq_true rfl, Nat.le_of_ble_eq_true rfl⟩ ⟨Nat.le_of_ble_eq_true rfl, Nat.le_of_ble_eq_true rfl⟩ ?_
                      obtain ⟨h79, e80, hf3⟩ := ob hf3
                      refine r_stI C dX12_laysAnswers_110 e80 ?_
                      refine r_aload_n C dX12_laysAnswers_111 rfl ?_
                      obtain ⟨t81, e82, hf3⟩ := ob hf3
                      refine r_getR C fk_X12_60 rfl dX12_laysAnswers_112 e82 ?_
                      refine r_iload C dX12_laysAnswers_115 rfl ?_
                      refine r_iload C dX12_laysAnswers_117 rfl ?_
                      refine r_ifeq (tgt := 134) C dX12_laysAnswers_119 (by decide) (fun c83 => ?_) (fun c83 => ?_)
                      · rw [if_pos c83] at hf3
                        refine r_iload C dX12_laysAnswers_134 rfl ?_
                        refine r_subk [1, 2, 3, 4, 5, 6, 0] (lv' := [(0, .ref v0), (1, .int t2), (2, .int t10), (3, .int t68), (4, .int t69), (5, .int t70), (6, .int t71)]) rfl ?_
                        exact J136 h79 t68 t69 t70 t71 t81 t69 t70 hf3
                      · rw [if_neg c83] at hf3
                        refine r_aload_n C dX12_laysAnswers_122 rfl ?_
                        obtain ⟨t84, e85, hf3⟩ := ob hf3
                        refine r_getR C fk_X12_60 rfl dX12_laysAnswers_123 e85 ?_
                        refine r_iload C dX12_laysAnswers_126 rfl ?_
                        refine r_iconst (v := 2) C dX12_laysAnswers_128 (by decide) ?_
                        refine r_iadd C dX12_laysAnswers_129 ?_
                        obtain ⟨t86, e87, hf3⟩ := ob hf3
                        refine r_ldI C dX12_laysAnswers_130 e87 ?_
                        refine r_goto (tgt := 136) C dX12_laysAnswers_131 (by decide) ?_
                        refine r_subk [1, 2, 3, 4, 5, 6, 0] (lv' := [(0, .ref v0), (1, .int t2), (2, .int t10), (3, .int t68), (4, .int t69), (5, .int t70), (6, .int t71)]) rfl ?_
                        exact J136 h79 t68 t69 t70 t71 t81 t69 t86 hf3
                    refine r_iload_n C dX12_laysAnswers_43 rfl ?_
                    refine r_aload_n C dX12_laysAnswers_44 rfl ?_
                    obtain ⟨t88, e89, hf3⟩ := ob hf3
                    refine r_getR C fk_X12_7 rfl dX12_laysAnswers_45 e89 ?_
                    refine r_iconst (v := 3) C dX12_laysAnswers_48 (by decide) ?_
                    obtain ⟨t90, e91, hf3⟩ := ob hf3
                    refine r_ldI C dX12_laysAnswers_49 e91 ?_
                    refine r_icmp_ge (tgt := 199) C dX12_laysAnswers_50 (by decide) (fun c92 => ?_) (fun c92 => ?_)
                    · rw [if_pos c92] at hf3
                      obtain rfl := so hf3
                      obtain rfl := so (show some h34 = some y32 from hk43)
                      refine r_subk [0, 1, 2] (lv' := [(0, .ref v0), (1, .int t2), (2, .int t10)]) rfl ?_
                      exact J199 h34 t10 hf2
                    · rw [if_neg c92] at hf3
                      refine r_iconst (v := 4) C dX12_laysAnswers_53 (by decide) ?_
                      refine r_sipush (v := 256) C dX12_laysAnswers_54 (by decide) ?_
                      refine r_bipush (v := 12) C dX12_laysAnswers_57 (by decide) ?_
                      refine r_iload_n C dX12_laysAnswers_59 rfl ?_
                      refine r_imul C dX12_laysAnswers_60 ?_
                      refine r_iload_n C dX12_laysAnswers_61 rfl ?_
                      refine r_iadd C dX12_laysAnswers_62 ?_
                      refine r_imul C dX12_laysAnswers_63 ?_
                      refine r_iload_n C dX12_laysAnswers_64 rfl ?_
                      refine r_iadd C dX12_laysAnswers_65 ?_
                      refine r_imul C dX12_laysAnswers_66 ?_
                      obtain ⟨t93, e94, hf3⟩ := ob hf3
                      refine r_istore (lv' := [(4, .int t93), (0, .ref v0), (1, .int t2), (2, .int t10), (3, .int t33)]) C dX12_laysAnswers_67 (by decide) e94 rfl ?_
                      refine r_aload_n C dX12_laysAnswers_69 rfl ?_
                      refine r_iload_n C dX12_laysAnswers_70 rfl ?_
                      obtain ⟨u96, e95, hf3⟩ := ob hf3
                      obtain ⟨t97, h98, e99, hf3⟩ := ob2 hf3
                      refine r_cV (ci := 12) (rest := []) (st2 := [.int t97]) C (s_X12_honestly e99) mk_X12_honestly rfl (ck_k e95) (by decide) im_X12_honestly sl_X12_honestly lk_X12_359 rfl rfl rfl dX12_laysAnswers_71 (Nat.le_of_ble_eq_true rfl) ⟨Nat.le_of_ble_eq_true rfl, Nat.le_of_ble_eq_true rfl⟩ ⟨Nat.le_of_ble_eq_true rfl, Nat.le_of_ble_eq_true rfl⟩ ?_
                      refine r_istore (lv' := [(5, .int t97), (4, .int t93), (0, .ref v0), (1, .int t2), (2, .int t10), (3, .int t33)]) C dX12_laysAnswers_74 (by decide) rfl rfl ?_
                      refine r_aload_n C dX12_laysAnswers_76 rfl ?_
                      refine r_iload_n C dX12_laysAnswers_77 rfl ?_
                      refine r_iconst (v := 5) C dX12_laysAnswers_78 (by decide) ?_
                      obtain ⟨u101, e100, hf3⟩ := ob hf3
                      obtain ⟨t102, e103, hf3⟩ := ob hf3
                      refine r_cV (ci := 12) (rest := []) (st2 := [.int t102]) C (s_X12_ofWitness e103) mk_X12_ofWitness rfl (ck_k e100) (by decide) im_X12_ofWitness sl_X12_ofWitness lk_X12_343 rfl rfl rfl dX12_laysAnswers_79 (Nat.le_of_ble_eq_true rfl) ⟨Nat.le_of_ble_eq_true rfl, Nat.le_of_ble_eq_true rfl⟩ ⟨Nat.le_of_ble_eq_true rfl, Nat.le_of_ble_eq_true rfl⟩ ?_
                      refine r_iload_n C dX12_laysAnswers_82 rfl ?_
                      refine r_ishr C dX12_laysAnswers_83 ?_
                      refine r_iconst (v := 1) C dX12_laysAnswers_84 (by decide) ?_
                      refine r_iand C dX12_laysAnswers_85 ?_
                      refine r_iconst (v := 1) C dX12_laysAnswers_86 (by decide) ?_
                      refine r_icmp_ne (tgt := 94) C dX12_laysAnswers_87 (by decide) (fun c104 => ?_) (fun c104 => ?_)
                      · rw [if_neg c104] at hf3
                        refine r_iconst (v := 0) C dX12_laysAnswers_94 (by decide) ?_
                        refine r_subk [2, 3, 4, 5, 1, 0] (lv' := [(0, .ref v0), (1, .int t2), (2, .int t10), (3, .int t33), (4, .int t93), (5, .int t97)]) rfl ?_
                        exact J95 h98 t33 t93 t97 (0 : Int32) hf3
                      · rw [if_pos c104] at hf3
                        refine r_iconst (v := 1) C dX12_laysAnswers_90 (by decide) ?_
                        refine r_goto (tgt := 95) C dX12_laysAnswers_91 (by decide) ?_
                        refine r_subk [2, 3, 4, 5, 1, 0] (lv' := [(0, .ref v0), (1, .int t2), (2, .int t10), (3, .int t33), (4, .int t93), (5, .int t97)]) rfl ?_
                        exact J95 h98 t33 t93 t97 (1 : Int32) hf3
                refine r_subk [1, 2, 3, 0] (lv' := [(0, .ref v0), (1, .int t2), (2, .int t10), (3, .int (0 : Int32))]) rfl ?_
                exact L43 wN (0 : Int32) h30 hl43
              · rw [if_pos c27] at hf2
                refine r_goto (tgt := 199) C dX12_laysAnswers_32 (by decide) ?_
                exact J199 h11 t10 hf2
        refine r_subk [1, 2, 0] (lv' := [(0, .ref v0), (1, .int t2), (2, .int (0 : Int32))]) rfl ?_
        exact L14 wN (0 : Int32) h3 hl14
  refine r_subk [1, 0] (lv' := [(0, .ref v0), (1, .int (0 : Int32))]) rfl ?_
  exact L2 wN (0 : Int32) h hl2
def f_X12_takes_b2 (v0 : Nat) (v1 : Int32) (h : aH) : Option ((Int32 × aH) ⊕ (aH)) := if (400 : Int32) ≤ v1 then some (.inr h) else (gR h 12 v0 0).bind fun t1 => (gR h 12 v0 0).bind fun t2 => (lI h t2 ((1600 : Int32) + v1)).bind fun t3 => (sI h t1 v1 t3).bind fun h4 => (some (v1 + (1 : Int32))).bind fun t5 => some (.inl (t5, h4))
def f_X12_takes_l2 (v0 : Nat) (v1 : Int32) (h : aH) : Option (aH) := whileL wN (fun q : Int32 × aH => f_X12_takes_b2 v0 q.1 q.2) (v1, h)
def f_X12_takes_b33 (v0 : Nat) (v1 : Int32) (h : aH) : Option ((Int32 × aH) ⊕ (aH)) := if (52 : Int32) ≤ v1 then some (.inr h) else (gR h 12 v0 1).bind fun t7 => (gR h 12 v0 1).bind fun t8 => (lJ h t8 ((208 : Int32) + v1)).bind fun t9 => (sJ h t7 v1 t9).bind fun h10 => (some (v1 + (1 : Int32))).bind fun t11 => some (.inl (t11, h10))
def f_X12_takes_l33 (v0 : Nat) (v1 : Int32) (h : aH) : Option (aH) := whileL wN (fun q : Int32 × aH => f_X12_takes_b33 v0 q.1 q.2) (v1, h)
def f_X12_takes_b63 (v0 : Nat) (v1 : Int32) (h : aH) : Option ((Int32 × aH) ⊕ (aH)) := if (44 : Int32) ≤ v1 then some (.inr h) else (gR h 12 v0 2).bind fun t13 => (gR h 12 v0 2).bind fun t14 => (lJ h t14 ((176 : Int32) + v1)).bind fun t15 => (sJ h t13 v1 t15).bind fun h16 => (some (v1 + (1 : Int32))).bind fun t17 => some (.inl (t17, h16))
def f_X12_takes_l63 (v0 : Nat) (v1 : Int32) (h : aH) : Option (aH) := whileL wN (fun q : Int32 × aH => f_X12_takes_b63 v0 q.1 q.2) (v1, h)
def f_X12_takes (h : aH) (v0 : Nat) : Option (aH) := (f_X12_takes_l2 v0 (0 : Int32) h).bind fun h6 => (f_X12_takes_l33 v0 (0 : Int32) h6).bind fun h12 => (f_X12_takes_l63 v0 (0 : Int32) h12).bind fun h18 => (ck h18 12 v0).bind fun _ => (f_X12_laysAnswers h18 v0).bind fun h19 => some h19
theorem s_X12_takes {h : aH} {v0 : Nat} {out : aH} (hf0 : f_X12_takes h v0 = some out) : EV 4 yX12_takes cX12_takes 2 none h [.ref v0] none out 0 0 := by
  refine EV.of (own := RX12) (lv0 := [(0, .ref v0)]) (by decide +kernel) rfl rfl (Nat.le_of_ble_eq_true rfl) ?_
  intro p l e s m args below meth c D cA B Hb C hin
  unfold f_X12_takes at hf0
  refine r_iconst (v := 0) C dX12_takes_0 (by decide) ?_
  refine r_istore_n (lv' := [(1, .int (0 : Int32)), (0, .ref v0)]) C dX12_takes_1 (by decide) rfl rfl ?_
  obtain ⟨y1, hl2, hf0⟩ := ob hf0
  have L2 : ∀ (n : Nat) (t2 : Int32) (h3 : aH), whileL n (fun q : Int32 × aH => f_X12_takes_b2 v0 q.1 q.2) (t2, h3) = some y1 → gW p l e (rmO 4 0 0) s m args below meth c (MQ below (eQ D cA B Hb out none) args s 0 0 (fun q => B ≤ q)) D cA B Hb 2 h3 2 [(0, .ref v0), (1, .int t2)] [] 0 0 := by
    intro n
    induction n with
    | zero => intro t2 h3 hz; cases hz
    | succ n ih2 =>
      intro t2 h3 hz
      obtain ⟨x2, hf1, hk2⟩ := wl hz
      replace hf1 : f_X12_takes_b2 v0 t2 h3 = some x2 := hf1
      unfold f_X12_takes_b2 at hf1
      refine r_iload_n C dX12_takes_2 rfl ?_
      refine r_sipush (v := 400) C dX12_takes_3 (by decide) ?_
      refine r_icmp_ge (tgt := 31) C dX12_takes_6 (by decide) (fun c4 => ?_) (fun c4 => ?_)
      · rw [if_pos c4] at hf1
        obtain rfl := so hf1
        obtain rfl := so (show some h3 = some y1 from hk2)
        refine r_iconst (v := 0) C dX12_takes_31 (by decide) ?_
        refine r_istore_n (lv' := [(1, .int (0 : Int32)), (0, .ref v0)]) C dX12_takes_32 (by decide) rfl rfl ?_
        obtain ⟨y5, hl33, hf0⟩ := ob hf0
        have L33 : ∀ (n : Nat) (t6 : Int32) (h7 : aH), whileL n (fun q : Int32 × aH => f_X12_takes_b33 v0 q.1 q.2) (t6, h7) = some y5 → gW p l e (rmO 4 0 0) s m args below meth c (MQ below (eQ D cA B Hb out none) args s 0 0 (fun q => B ≤ q)) D cA B Hb 2 h7 33 [(0, .ref v0), (1, .int t6)] [] 0 0 := by
          intro n
          induction n with
          | zero => intro t6 h7 hz; cases hz
          | succ n ih33 =>
            intro t6 h7 hz
            obtain ⟨x33, hf1, hk33⟩ := wl hz
            replace hf1 : f_X12_takes_b33 v0 t6 h7 = some x33 := hf1
            unfold f_X12_takes_b33 at hf1
            refine r_iload_n C dX12_takes_33 rfl ?_
            refine r_bipush (v := 52) C dX12_takes_34 (by decide) ?_
            refine r_icmp_ge (tgt := 61) C dX12_takes_36 (by decide) (fun c8 => ?_) (fun c8 => ?_)
            · rw [if_pos c8] at hf1
              obtain rfl := so hf1
              obtain rfl := so (show some h7 = some y5 from hk33)
              refine r_iconst (v := 0) C dX12_takes_61 (by decide) ?_
              refine r_istore_n (lv' := [(1, .int (0 : Int32)), (0, .ref v0)]) C dX12_takes_62 (by decide) rfl rfl ?_
              obtain ⟨y9, hl63, hf0⟩ := ob hf0
              have L63 : ∀ (n : Nat) (t10 : Int32) (h11 : aH), whileL n (fun q : Int32 × aH => f_X12_takes_b63 v0 q.1 q.2) (t10, h11) = some y9 → gW p l e (rmO 4 0 0) s m args below meth c (MQ below (eQ D cA B Hb out none) args s 0 0 (fun q => B ≤ q)) D cA B Hb 2 h11 63 [(0, .ref v0), (1, .int t10)] [] 0 0 := by
                intro n
                induction n with
                | zero => intro t10 h11 hz; cases hz
                | succ n ih63 =>
                  intro t10 h11 hz
                  obtain ⟨x63, hf1, hk63⟩ := wl hz
                  replace hf1 : f_X12_takes_b63 v0 t10 h11 = some x63 := hf1
                  unfold f_X12_takes_b63 at hf1
                  refine r_iload_n C dX12_takes_63 rfl ?_
                  refine r_bipush (v := 44) C dX12_takes_64 (by decide) ?_
                  refine r_icmp_ge (tgt := 91) C dX12_takes_66 (by decide) (fun c12 => ?_) (fun c12 => ?_)
                  · rw [if_pos c12] at hf1
                    obtain rfl := so hf1
                    obtain rfl := so (show some h11 = some y9 from hk63)
                    refine r_aload_n C dX12_takes_91 rfl ?_
                    obtain ⟨u14, e13, hf0⟩ := ob hf0
                    obtain ⟨h15, e16, hf0⟩ := ob hf0
                    refine r_cV (ci := 12) (rest := []) (st2 := []) C (s_X12_laysAnswers e16) mk_X12_laysAnswers rfl (ck_k e13) (by decide) im_X12_laysAnswers sl_X12_laysAnswers lk_X12_100 rfl rfl rfl dX12_takes_92 (Nat.le_of_ble_eq_true rfl) ⟨Nat.le_of_ble_eq_true rfl, Nat.le_of_ble_eq_true rfl⟩ ⟨Nat.le_of_ble_eq_true rfl, Nat.le_of_ble_eq_true rfl⟩ ?_
                    obtain rfl := so hf0
                    exact r_vret C dX12_takes_95
                  · rw [if_neg c12] at hf1
                    refine r_aload_n C dX12_takes_69 rfl ?_
                    obtain ⟨t17, e18, hf1⟩ := ob hf1
                    refine r_getR C fk_X12_17 rfl dX12_takes_70 e18 ?_
                    refine r_iload_n C dX12_takes_73 rfl ?_
                    refine r_aload_n C dX12_takes_74 rfl ?_
                    obtain ⟨t19, e20, hf1⟩ := ob hf1
                    refine r_getR C fk_X12_17 rfl dX12_takes_75 e20 ?_
                    refine r_sipush (v := 176) C dX12_takes_78 (by decide) ?_
                    refine r_iload_n C dX12_takes_81 rfl ?_
                    refine r_iadd C dX12_takes_82 ?_
                    obtain ⟨t21, e22, hf1⟩ := ob hf1
                    refine r_ldJ C dX12_takes_83 e22 ?_
                    obtain ⟨h23, e24, hf1⟩ := ob hf1
                    refine r_stJ C dX12_takes_84 e24 ?_
                    obtain ⟨t25, e26, hf1⟩ := ob hf1
                    refine r_iinc (lv' := [(1, .int t25), (0, .ref v0)]) C dX12_takes_85 rfl e26 (by decide) rfl ?_
                    refine r_goto (tgt := 63) C dX12_takes_88 (by decide) ?_
                    obtain rfl := so hf1
                    refine r_subk [1, 0] (lv' := [(0, .ref v0), (1, .int t25)]) rfl ?_
                    exact ih63 t25 h23 hk63
              refine r_subk [1, 0] (lv' := [(0, .ref v0), (1, .int (0 : Int32))]) rfl ?_
              exact L63 wN (0 : Int32) h7 hl63
            · rw [if_neg c8] at hf1
              refine r_aload_n C dX12_takes_39 rfl ?_
              obtain ⟨t27, e28, hf1⟩ := ob hf1
              refine r_getR C fk_X12_13 rfl dX12_takes_40 e28 ?_
              refine r_iload_n C dX12_takes_43 rfl ?_
              refine r_aload_n C dX12_takes_44 rfl ?_
              obtain ⟨t29, e30, hf1⟩ := ob hf1
              refine r_getR C fk_X12_13 rfl dX12_takes_45 e30 ?_
              refine r_sipush (v := 208) C dX12_takes_48 (by decide) ?_
              refine r_iload_n C dX12_takes_51 rfl ?_
              refine r_iadd C dX12_takes_52 ?_
              obtain ⟨t31, e32, hf1⟩ := ob hf1
              refine r_ldJ C dX12_takes_53 e32 ?_
              obtain ⟨h33, e34, hf1⟩ := ob hf1
              refine r_stJ C dX12_takes_54 e34 ?_
              obtain ⟨t35, e36, hf1⟩ := ob hf1
              refine r_iinc (lv' := [(1, .int t35), (0, .ref v0)]) C dX12_takes_55 rfl e36 (by decide) rfl ?_
              refine r_goto (tgt := 33) C dX12_takes_58 (by decide) ?_
              obtain rfl := so hf1
              refine r_subk [1, 0] (lv' := [(0, .ref v0), (1, .int t35)]) rfl ?_
              exact ih33 t35 h33 hk33
        refine r_subk [1, 0] (lv' := [(0, .ref v0), (1, .int (0 : Int32))]) rfl ?_
        exact L33 wN (0 : Int32) h3 hl33
      · rw [if_neg c4] at hf1
        refine r_aload_n C dX12_takes_9 rfl ?_
        obtain ⟨t37, e38, hf1⟩ := ob hf1
        refine r_getR C fk_X12_7 rfl dX12_takes_10 e38 ?_
        refine r_iload_n C dX12_takes_13 rfl ?_
        refine r_aload_n C dX12_takes_14 rfl ?_
        obtain ⟨t39, e40, hf1⟩ := ob hf1
        refine r_getR C fk_X12_7 rfl dX12_takes_15 e40 ?_
        refine r_sipush (v := 1600) C dX12_takes_18 (by decide) ?_
        refine r_iload_n C dX12_takes_21 rfl ?_
        refine r_iadd C dX12_takes_22 ?_
        obtain ⟨t41, e42, hf1⟩ := ob hf1
        refine r_ldI C dX12_takes_23 e42 ?_
        obtain ⟨h43, e44, hf1⟩ := ob hf1
        refine r_stI C dX12_takes_24 e44 ?_
        obtain ⟨t45, e46, hf1⟩ := ob hf1
        refine r_iinc (lv' := [(1, .int t45), (0, .ref v0)]) C dX12_takes_25 rfl e46 (by decide) rfl ?_
        refine r_goto (tgt := 2) C dX12_takes_28 (by decide) ?_
        obtain rfl := so hf1
        refine r_subk [1, 0] (lv' := [(0, .ref v0), (1, .int t45)]) rfl ?_
        exact ih2 t45 h43 hk2
  refine r_subk [1, 0] (lv' := [(0, .ref v0), (1, .int (0 : Int32))]) rfl ?_
  exact L2 wN (0 : Int32) h hl2
def f_X12_init (h : aH) (v0 : Nat) : Option (aH) := bd2 (nwO h 20 2000) fun t1 h2 => (pR h2 12 v0 0 t1).bind fun h3 => bd2 (nwO h3 21 260) fun t4 h5 => (pR h5 12 v0 1 t4).bind fun h6 => bd2 (nwO h6 21 220) fun t7 h8 => (pR h8 12 v0 2 t7).bind fun h9 => (pJ h9 12 v0 5 (1 : Int64)).bind fun h10 => bd2 (nwO h10 20 4) fun t11 h12 => (pR h12 12 v0 6 t11).bind fun h13 => bd2 (nwO h13 20 4) fun t14 h15 => (sI h15 t14 (0 : Int32) (-1 : Int32)).bind fun h16 => (sI h16 t14 (1 : Int32) (-1 : Int32)).bind fun h17 => (sI h17 t14 (2 : Int32) (-1 : Int32)).bind fun h18 => (sI h18 t14 (3 : Int32) (-1 : Int32)).bind fun h19 => (pR h19 12 v0 7 t14).bind fun h20 => bd2 (nwO h20 21 240) fun t21 h22 => (pR h22 12 v0 8 t21).bind fun h23 => bd2 (nwO h23 22 900) fun t24 h25 => (pR h25 12 v0 9 t24).bind fun h26 => bd2 (nwO h26 22 900) fun t27 h28 => (pR h28 12 v0 10 t27).bind fun h29 => (pI h29 12 v0 17 (-1 : Int32)).bind fun h30 => (pI h30 12 v0 18 (-1 : Int32)).bind fun h31 => bd2 (nwO h31 20 24) fun t32 h33 => (pR h33 12 v0 22 t32).bind fun h34 => bd2 (nwO h34 21 240) fun t35 h36 => (pR h36 12 v0 23 t35).bind fun h37 => bd2 (nwO h37 20 100) fun t38 h39 => (pR h39 12 v0 24 t38).bind fun h40 => bd2 (nwO h40 20 3) fun t41 h42 => (pR h42 12 v0 28 t41).bind fun h43 => bd2 (nwO h43 20 49152) fun t44 h45 => (pR h45 12 v0 31 t44).bind fun h46 => bd2 (nwO h46 21 4) fun t47 h48 => (pR h48 12 v0 32 t47).bind fun h49 => bd2 (nwO h49 21 4) fun t50 h51 => (pR h51 12 v0 33 t50).bind fun h52 => bd2 (nwO h52 20 4096) fun t53 h54 => (pR h54 12 v0 34 t53).bind fun h55 => bd2 (nwO h55 23 48) fun t56 h57 => (pR h57 12 v0 35 t56).bind fun h58 => bd2 (nwO h58 20 3072) fun t59 h60 => (pR h60 12 v0 36 t59).bind fun h61 => (pI h61 12 v0 37 (-1 : Int32)).bind fun h62 => bd2 (nwO h62 20 4) fun t63 h64 => (pR h64 12 v0 42 t63).bind fun h65 => bd2 (nwO h65 20 48) fun t66 h67 => (pR h67 12 v0 43 t66).bind fun h68 => bd2 (nwO h68 20 6) fun t69 h70 => (pR h70 12 v0 44 t69).bind fun h71 => bd2 (nwO h71 20 6) fun t72 h73 => (pR h73 12 v0 46 t72).bind fun h74 => (ck h74 12 v0).bind fun _ => (f_X12_asNew h74 v0).bind fun h75 => (ck h75 12 v0).bind fun _ => (f_X12_takes h75 v0).bind fun h76 => some h76
theorem s_X12_init {h : aH} {v0 : Nat} {out : aH} (hf0 : f_X12_init h v0 = some out) : EV 5 yX12_init cX12_init 1 none h [.ref v0] none out 22 61335 := by
  refine EV.of (own := RX12) (lv0 := [(0, .ref v0)]) (by decide +kernel) rfl rfl (Nat.le_of_ble_eq_true rfl) ?_
  intro p l e s m args below meth c D cA B Hb C hin
  unfold f_X12_init at hf0
  refine r_aload_n C dX12_init_0 rfl ?_
  refine r_obj C lk_X12_1 dX12_init_1 ⟨Nat.le_of_ble_eq_true rfl, Nat.le_of_ble_eq_true rfl⟩ (Nat.le_of_ble_eq_true rfl) ?_
  refine r_aload_n C dX12_init_4 rfl ?_
  refine r_sipush (v := 2000) C dX12_init_5 (by decide) ?_
  obtain ⟨t1, h2, e3, hf0⟩ := ob2 hf0
  refine r_newIE C dX12_init_8 (by decide) (by decide) (by decide) ⟨Nat.le_of_ble_eq_true rfl, Nat.le_of_ble_eq_true rfl⟩ e3 ?_
  obtain ⟨h4, e5, hf0⟩ := ob hf0
  refine r_putFR C fk_X12_7 ⟨_, _, rfl⟩ (Or.inr ⟨_, rfl⟩) hin dX12_init_10 e5 ?_
  refine r_aload_n C dX12_init_13 rfl ?_
  refine r_sipush (v := 260) C dX12_init_14 (by decide) ?_
  obtain ⟨t6, h7, e8, hf0⟩ := ob2 hf0
  refine r_newJE C dX12_init_17 (by decide) (by decide) (by decide) ⟨Nat.le_of_ble_eq_true rfl, Nat.le_of_ble_eq_true rfl⟩ e8 ?_
  obtain ⟨h9, e10, hf0⟩ := ob hf0
  refine r_putFR C fk_X12_13 ⟨_, _, rfl⟩ (Or.inr ⟨_, rfl⟩) hin dX12_init_19 e10 ?_
  refine r_aload_n C dX12_init_22 rfl ?_
  refine r_sipush (v := 220) C dX12_init_23 (by decide) ?_
  obtain ⟨t11, h12, e13, hf0⟩ := ob2 hf0
  refine r_newJE C dX12_init_26 (by decide) (by decide) (by decide) ⟨Nat.le_of_ble_eq_true rfl, Nat.le_of_ble_eq_true rfl⟩ e13 ?_
  obtain ⟨h14, e15, hf0⟩ := ob hf0
  refine r_putFR C fk_X12_17 ⟨_, _, rfl⟩ (Or.inr ⟨_, rfl⟩) hin dX12_init_28 e15 ?_
  refine r_aload_n C dX12_init_31 rfl ?_
  refine r_lconst (v := 1) C dX12_init_32 (by decide) ?_
  obtain ⟨h16, e17, hf0⟩ := ob hf0
  refine r_putJ C fk_X12_20 dX12_init_33 e17 ?_
  refine r_aload_n C dX12_init_36 rfl ?_
  refine r_iconst (v := 4) C dX12_init_37 (by decide) ?_
  obtain ⟨t18, h19, e20, hf0⟩ := ob2 hf0
  refine r_newIE C dX12_init_38 (by decide) (by decide) (by decide) ⟨Nat.le_of_ble_eq_true rfl, Nat.le_of_ble_eq_true rfl⟩ e20 ?_
  obtain ⟨h21, e22, hf0⟩ := ob hf0
  refine r_putFR C fk_X12_24 ⟨_, _, rfl⟩ (Or.inr ⟨_, rfl⟩) hin dX12_init_40 e22 ?_
  refine r_aload_n C dX12_init_43 rfl ?_
  refine r_iconst (v := 4) C dX12_init_44 (by decide) ?_
  obtain ⟨t23, h24, e25, hf0⟩ := ob2 hf0
  refine r_newIE C dX12_init_45 (by decide) (by decide) (by decide) ⟨Nat.le_of_ble_eq_true rfl, Nat.le_of_ble_eq_true rfl⟩ e25 ?_
  refine r_dup C dX12_init_47 rfl ?_
  refine r_iconst (v := 0) C dX12_init_48 (by decide) ?_
  refine r_iconst (v := -1) C dX12_init_49 (by decide) ?_
  obtain ⟨h26, e27, hf0⟩ := ob hf0
  refine r_stI C dX12_init_50 e27 ?_
  refine r_dup C dX12_init_51 rfl ?_
  refine r_iconst (v := 1) C dX12_init_52 (by decide) ?_
  refine r_iconst (v := -1) C dX12_init_53 (by decide) ?_
  obtain ⟨h28, e29, hf0⟩ := ob hf0
  refine r_stI C dX12_init_54 e29 ?_
  refine r_dup C dX12_init_55 rfl ?_
  refine r_iconst (v := 2) C dX12_init_56 (by decide) ?_
  refine r_iconst (v := -1) C dX12_init_57 (by decide) ?_
  obtain ⟨h30, e31, hf0⟩ := ob hf0
  refine r_stI C dX12_init_58 e31 ?_
  refine r_dup C dX12_init_59 rfl ?_
  refine r_iconst (v := 3) C dX12_init_60 (by decide) ?_
  refine r_iconst (v := -1) C dX12_init_61 (by decide) ?_
  obtain ⟨h32, e33, hf0⟩ := ob hf0
  refine r_stI C dX12_init_62 e33 ?_
  obtain ⟨h34, e35, hf0⟩ := ob hf0
  refine r_putFR C fk_X12_27 ⟨_, _, rfl⟩ (Or.inr ⟨_, rfl⟩) hin dX12_init_63 e35 ?_
  refine r_aload_n C dX12_init_66 rfl ?_
  refine r_sipush (v := 240) C dX12_init_67 (by decide) ?_
  obtain ⟨t36, h37, e38, hf0⟩ := ob2 hf0
  refine r_newJE C dX12_init_70 (by decide) (by decide) (by decide) ⟨Nat.le_of_ble_eq_true rfl, Nat.le_of_ble_eq_true rfl⟩ e38 ?_
  obtain ⟨h39, e40, hf0⟩ := ob hf0
  refine r_putFR C fk_X12_30 ⟨_, _, rfl⟩ (Or.inr ⟨_, rfl⟩) hin dX12_init_72 e40 ?_
  refine r_aload_n C dX12_init_75 rfl ?_
  refine r_sipush (v := 900) C dX12_init_76 (by decide) ?_
  obtain ⟨t41, h42, e43, hf0⟩ := ob2 hf0
  refine r_newBE C dX12_init_79 (by decide) (by decide) (by decide) ⟨Nat.le_of_ble_eq_true rfl, Nat.le_of_ble_eq_true rfl⟩ e43 ?_
  obtain ⟨h44, e45, hf0⟩ := ob hf0
  refine r_putFR C fk_X12_33 ⟨_, _, rfl⟩ (Or.inr ⟨_, rfl⟩) hin dX12_init_81 e45 ?_
  refine r_aload_n C dX12_init_84 rfl ?_
  refine r_sipush (v := 900) C dX12_init_85 (by decide) ?_
  obtain ⟨t46, h47, e48, hf0⟩ := ob2 hf0
  refine r_newBE C dX12_init_88 (by decide) (by decide) (by decide) ⟨Nat.le_of_ble_eq_true rfl, Nat.le_of_ble_eq_true rfl⟩ e48 ?_
  obtain ⟨h49, e50, hf0⟩ := ob hf0
  refine r_putFR C fk_X12_37 ⟨_, _, rfl⟩ (Or.inr ⟨_, rfl⟩) hin dX12_init_90 e50 ?_
  refine r_aload_n C dX12_init_93 rfl ?_
  refine r_iconst (v := -1) C dX12_init_94 (by decide) ?_
  obtain ⟨h51, e52, hf0⟩ := ob hf0
  refine r_putI C fk_X12_40 dX12_init_95 e52 ?_
  refine r_aload_n C dX12_init_98 rfl ?_
  refine r_iconst (v := -1) C dX12_init_99 (by decide) ?_
  obtain ⟨h53, e54, hf0⟩ := ob hf0
  refine r_putI C fk_X12_44 dX12_init_100 e54 ?_
  refine r_aload_n C dX12_init_103 rfl ?_
  refine r_bipush (v := 24) C dX12_init_104 (by decide) ?_
  obtain ⟨t55, h56, e57, hf0⟩ := ob2 hf0
  refine r_newIE C dX12_init_106 (by decide) (by decide) (by decide) ⟨Nat.le_of_ble_eq_true rfl, Nat.le_of_ble_eq_true rfl⟩ e57 ?_
  obtain ⟨h58, e59, hf0⟩ := ob hf0
  refine r_putFR C fk_X12_47 ⟨_, _, rfl⟩ (Or.inr ⟨_, rfl⟩) hin dX12_init_108 e59 ?_
  refine r_aload_n C dX12_init_111 rfl ?_
  refine r_sipush (v := 240) C dX12_init_112 (by decide) ?_
  obtain ⟨t60, h61, e62, hf0⟩ := ob2 hf0
  refine r_newJE C dX12_init_115 (by decide) (by decide) (by decide) ⟨Nat.le_of_ble_eq_true rfl, Nat.le_of_ble_eq_true rfl⟩ e62 ?_
  obtain ⟨h63, e64, hf0⟩ := ob hf0
  refine r_putFR C fk_X12_50 ⟨_, _, rfl⟩ (Or.inr ⟨_, rfl⟩) hin dX12_init_117 e64 ?_
  refine r_aload_n C dX12_init_120 rfl ?_
  refine r_bipush (v := 100) C dX12_init_121 (by decide) ?_
  obtain ⟨t65, h66, e67, hf0⟩ := ob2 hf0
  refine r_newIE C dX12_init_123 (by decide) (by decide) (by decide) ⟨Nat.le_of_ble_eq_true rfl, Nat.le_of_ble_eq_true rfl⟩ e67 ?_
  obtain ⟨h68, e69, hf0⟩ := ob hf0
  refine r_putFR C fk_X12_53 ⟨_, _, rfl⟩ (Or.inr ⟨_, rfl⟩) hin dX12_init_125 e69 ?_
  refine r_aload_n C dX12_init_128 rfl ?_
  refine r_iconst (v := 3) C dX12_init_129 (by decide) ?_
  obtain ⟨t70, h71, e72, hf0⟩ := ob2 hf0
  refine r_newIE C dX12_init_130 (by decide) (by decide) (by decide) ⟨Nat.le_of_ble_eq_true rfl, Nat.le_of_ble_eq_true rfl⟩ e72 ?_
  obtain ⟨h73, e74, hf0⟩ := ob hf0
  refine r_putFR C fk_X12_56 ⟨_, _, rfl⟩ (Or.inr ⟨_, rfl⟩) hin dX12_init_132 e74 ?_
  refine r_aload_n C dX12_init_135 rfl ?_
  refine r_ldc (v := 49152) C dX12_init_136 cn_X12_59 ?_
  obtain ⟨t75, h76, e77, hf0⟩ := ob2 hf0
  refine r_newIE C dX12_init_138 (by decide) (by decide) (by decide) ⟨Nat.le_of_ble_eq_true rfl, Nat.le_of_ble_eq_true rfl⟩ e77 ?_
  obtain ⟨h78, e79, hf0⟩ := ob hf0
  refine r_putFR C fk_X12_60 ⟨_, _, rfl⟩ (Or.inr ⟨_, rfl⟩) hin dX12_init_140 e79 ?_
  refine r_aload_n C dX12_init_143 rfl ?_
  refine r_iconst (v := 4) C dX12_init_144 (by decide) ?_
  obtain ⟨t80, h81, e82, hf0⟩ := ob2 hf0
  refine r_newJE C dX12_init_145 (by decide) (by decide) (by decide) ⟨Nat.le_of_ble_eq_true rfl, Nat.le_of_ble_eq_true rfl⟩ e82 ?_
  obtain ⟨h83, e84, hf0⟩ := ob hf0
  refine r_putFR C fk_X12_63 ⟨_, _, rfl⟩ (Or.inr ⟨_, rfl⟩) hin dX12_init_147 e84 ?_
  refine r_aload_n C dX12_init_150 rfl ?_
  refine r_iconst (v := 4) C dX12_init_151 (by decide) ?_
  obtain ⟨t85, h86, e87, hf0⟩ := ob2 hf0
  refine r_newJE C dX12_init_152 (by decide) (by decide) (by decide) ⟨Nat.le_of_ble_eq_true rfl, Nat.le_of_ble_eq_true rfl⟩ e87 ?_
  obtain ⟨h88, e89, hf0⟩ := ob hf0
  refine r_putFR C fk_X12_66 ⟨_, _, rfl⟩ (Or.inr ⟨_, rfl⟩) hin dX12_init_154 e89 ?_
  refine r_aload_n C dX12_init_157 rfl ?_
  refine r_sipush (v := 4096) C dX12_init_158 (by decide) ?_
  obtain ⟨t90, h91, e92, hf0⟩ := ob2 hf0
  refine r_newIE C dX12_init_161 (by decide) (by decide) (by decide) ⟨Nat.le_of_ble_eq_true rfl, Nat.le_of_ble_eq_true rfl⟩ e92 ?_
  obtain ⟨h93, e94, hf0⟩ := ob hf0
  refine r_putFR C fk_X12_69 ⟨_, _, rfl⟩ (Or.inr ⟨_, rfl⟩) hin dX12_init_163 e94 ?_
  refine r_aload_n C dX12_init_166 rfl ?_
  refine r_bipush (v := 48) C dX12_init_167 (by decide) ?_
  obtain ⟨t95, h96, e97, hf0⟩ := ob2 hf0
  refine r_newZE C dX12_init_169 (by decide) (by decide) (by decide) ⟨Nat.le_of_ble_eq_true rfl, Nat.le_of_ble_eq_true rfl⟩ e97 ?_
  obtain ⟨h98, e99, hf0⟩ := ob hf0
  refine r_putFR C fk_X12_72 ⟨_, _, rfl⟩ (Or.inr ⟨_, rfl⟩) hin dX12_init_171 e99 ?_
  refine r_aload_n C dX12_init_174 rfl ?_
  refine r_sipush (v := 3072) C dX12_init_175 (by decide) ?_
  obtain ⟨t100, h101, e102, hf0⟩ := ob2 hf0
  refine r_newIE C dX12_init_178 (by decide) (by decide) (by decide) ⟨Nat.le_of_ble_eq_true rfl, Nat.le_of_ble_eq_true rfl⟩ e102 ?_
  obtain ⟨h103, e104, hf0⟩ := ob hf0
  refine r_putFR C fk_X12_76 ⟨_, _, rfl⟩ (Or.inr ⟨_, rfl⟩) hin dX12_init_180 e104 ?_
  refine r_aload_n C dX12_init_183 rfl ?_
  refine r_iconst (v := -1) C dX12_init_184 (by decide) ?_
  obtain ⟨h105, e106, hf0⟩ := ob hf0
  refine r_putI C fk_X12_79 dX12_init_185 e106 ?_
  refine r_aload_n C dX12_init_188 rfl ?_
  refine r_iconst (v := 4) C dX12_init_189 (by decide) ?_
  obtain ⟨t107, h108, e109, hf0⟩ := ob2 hf0
  refine r_newIE C dX12_init_190 (by decide) (by decide) (by decide) ⟨Nat.le_of_ble_eq_true rfl, Nat.le_of_ble_eq_true rfl⟩ e109 ?_
  obtain ⟨h110, e111, hf0⟩ := ob hf0
  refine r_putFR C fk_X12_82 ⟨_, _, rfl⟩ (Or.inr ⟨_, rfl⟩) hin dX12_init_192 e111 ?_
  refine r_aload_n C dX12_init_195 rfl ?_
  refine r_bipush (v := 48) C dX12_init_196 (by decide) ?_
  obtain ⟨t112, h113, e114, hf0⟩ := ob2 hf0
  refine r_newIE C dX12_init_198 (by decide) (by decide) (by decide) ⟨Nat.le_of_ble_eq_true rfl, Nat.le_of_ble_eq_true rfl⟩ e114 ?_
  obtain ⟨h115, e116, hf0⟩ := ob hf0
  refine r_putFR C fk_X12_85 ⟨_, _, rfl⟩ (Or.inr ⟨_, rfl⟩) hin dX12_init_200 e116 ?_
  refine r_aload_n C dX12_init_203 rfl ?_
  refine r_bipush (v := 6) C dX12_init_204 (by decide) ?_
  obtain ⟨t117, h118, e119, hf0⟩ := ob2 hf0
  refine r_newIE C dX12_init_206 (by decide) (by decide) (by decide) ⟨Nat.le_of_ble_eq_true rfl, Nat.le_of_ble_eq_true rfl⟩ e119 ?_
  obtain ⟨h120, e121, hf0⟩ := ob hf0
  refine r_putFR C fk_X12_88 ⟨_, _, rfl⟩ (Or.inr ⟨_, rfl⟩) hin dX12_init_208 e121 ?_
  refine r_aload_n C dX12_init_211 rfl ?_
  refine r_bipush (v := 6) C dX12_init_212 (by decide) ?_
  obtain ⟨t122, h123, e124, hf0⟩ := ob2 hf0
  refine r_newIE C dX12_init_214 (by decide) (by decide) (by decide) ⟨Nat.le_of_ble_eq_true rfl, Nat.le_of_ble_eq_true rfl⟩ e124 ?_
  obtain ⟨h125, e126, hf0⟩ := ob hf0
  refine r_putFR C fk_X12_91 ⟨_, _, rfl⟩ (Or.inr ⟨_, rfl⟩) hin dX12_init_216 e126 ?_
  refine r_aload_n C dX12_init_219 rfl ?_
  obtain ⟨u128, e127, hf0⟩ := ob hf0
  obtain ⟨h129, e130, hf0⟩ := ob hf0
  refine r_cV (ci := 12) (rest := []) (st2 := []) C (s_X12_asNew e130) mk_X12_asNew rfl (ck_k e127) (by decide) im_X12_asNew sl_X12_asNew lk_X12_94 rfl rfl rfl dX12_init_220 (Nat.le_of_ble_eq_true rfl) ⟨Nat.le_of_ble_eq_true rfl, Nat.le_of_ble_eq_true rfl⟩ ⟨Nat.le_of_ble_eq_true rfl, Nat.le_of_ble_eq_true rfl⟩ ?_
  refine r_aload_n C dX12_init_223 rfl ?_
  obtain ⟨u132, e131, hf0⟩ := ob hf0
  obtain ⟨h133, e134, hf0⟩ := ob hf0
  refine r_cV (ci := 12) (rest := []) (st2 := []) C (s_X12_takes e134) mk_X12_takes rfl (ck_k e131) (by decide) im_X12_takes sl_X12_takes lk_X12_97 rfl rfl rfl dX12_init_224 (Nat.le_of_ble_eq_true rfl) ⟨Nat.le_of_ble_eq_true rfl, Nat.le_of_ble_eq_true rfl⟩ ⟨Nat.le_of_ble_eq_true rfl, Nat.le_of_ble_eq_true rfl⟩ ?_
  obtain rfl := so hf0
  exact r_vret C dX12_init_227
def f_X12_status (h : aH) (v0 : Nat) : Option (Int32) := (gI h 12 v0 3).bind fun t1 => some t1
theorem s_X12_status {h : aH} {v0 : Nat} {out : Int32} (hf0 : f_X12_status h v0 = some out) : EV 0 yX12_status cX12_status 1 (some .int) h [.ref v0] (some (.int out)) h 0 0 := by
  refine EV.of (own := RX12) (lv0 := [(0, .ref v0)]) (by decide +kernel) rfl rfl (Nat.le_of_ble_eq_true rfl) ?_
  intro p l e s m args below meth c D cA B Hb C hin
  unfold f_X12_status at hf0
  refine r_aload_n C dX12_status_0 rfl ?_
  obtain ⟨t1, e2, hf0⟩ := ob hf0
  refine r_getI C fk_X12_103 rfl dX12_status_1 e2 ?_
  obtain rfl := so hf0
  exact r_iret C dX12_status_4
def f_X12_top (h : aH) (v0 : Nat) : Option (Int64) := (gJ h 12 v0 4).bind fun t1 => some t1
theorem s_X12_top {h : aH} {v0 : Nat} {out : Int64} (hf0 : f_X12_top h v0 = some out) : EV 0 yX12_top cX12_top 1 (some .long) h [.ref v0] (some (.long out)) h 0 0 := by
  refine EV.of (own := RX12) (lv0 := [(0, .ref v0)]) (by decide +kernel) rfl rfl (Nat.le_of_ble_eq_true rfl) ?_
  intro p l e s m args below meth c D cA B Hb C hin
  unfold f_X12_top at hf0
  refine r_aload_n C dX12_top_0 rfl ?_
  obtain ⟨t1, e2, hf0⟩ := ob hf0
  refine r_getJ C fk_X12_106 rfl dX12_top_1 e2 ?_
  obtain rfl := so hf0
  exact r_lret C dX12_top_4
def f_X12_bottom (h : aH) (v0 : Nat) : Option (Int64) := (gJ h 12 v0 5).bind fun t1 => some t1
theorem s_X12_bottom {h : aH} {v0 : Nat} {out : Int64} (hf0 : f_X12_bottom h v0 = some out) : EV 0 yX12_bottom cX12_bottom 1 (some .long) h [.ref v0] (some (.long out)) h 0 0 := by
  refine EV.of (own := RX12) (lv0 := [(0, .ref v0)]) (by decide +kernel) rfl rfl (Nat.le_of_ble_eq_true rfl) ?_
  intro p l e s m args below meth c D cA B Hb C hin
  unfold f_X12_bottom at hf0
  refine r_aload_n C dX12_bottom_0 rfl ?_
  obtain ⟨t1, e2, hf0⟩ := ob hf0
  refine r_getJ C fk_X12_20 rfl dX12_bottom_1 e2 ?_
  obtain rfl := so hf0
  exact r_lret C dX12_bottom_4
def f_X12_is (h : aH) (v0 : Nat) (v1 : Int32) : Option (Int32 × aH) := (pI h 12 v0 3 v1).bind fun h1 => if v1 = 0 then some ((1 : Int32), h1) else some ((0 : Int32), h1)
theorem s_X12_is {h : aH} {v0 : Nat} {v1 : Int32} {out : Int32 × aH} (hf0 : f_X12_is h v0 v1 = some out) : EV 0 yX12_is cX12_is 2 (some .boolean) h [.ref v0, .int v1] (some (.int out.1)) out.2 0 0 := by
  refine EV.of (own := RX12) (lv0 := [(0, .ref v0), (1, .int v1)]) (by decide +kernel) rfl rfl (Nat.le_of_ble_eq_true rfl) ?_
  intro p l e s m args below meth c D cA B Hb C hin
  unfold f_X12_is at hf0
  refine r_aload_n C dX12_is_0 rfl ?_
  refine r_iload_n C dX12_is_1 rfl ?_
  obtain ⟨h1, e2, hf0⟩ := ob hf0
  refine r_putI C fk_X12_103 dX12_is_2 e2 ?_
  refine r_iload_n C dX12_is_5 rfl ?_
  refine r_ifne (tgt := 13) C dX12_is_6 (by decide) (fun c3 => ?_) (fun c3 => ?_)
  · rw [if_neg c3] at hf0
    refine r_iconst (v := 0) C dX12_is_13 (by decide) ?_
    obtain rfl := so hf0
    exact r_zret C dX12_is_14 (Or.inl rfl)
  · rw [if_pos c3] at hf0
    refine r_iconst (v := 1) C dX12_is_9 (by decide) ?_
    refine r_goto (tgt := 14) C dX12_is_10 (by decide) ?_
    obtain rfl := so hf0
    exact r_zret C dX12_is_14 (Or.inr rfl)
def f_X12_refuse (h : aH) (v0 : Nat) (v1 : Int32) : Option (Int32 × aH) := (pI h 12 v0 3 v1).bind fun h1 => some ((-1 : Int32), h1)
theorem s_X12_refuse {h : aH} {v0 : Nat} {v1 : Int32} {out : Int32 × aH} (hf0 : f_X12_refuse h v0 v1 = some out) : EV 0 yX12_refuse cX12_refuse 2 (some .int) h [.ref v0, .int v1] (some (.int out.1)) out.2 0 0 := by
  refine EV.of (own := RX12) (lv0 := [(0, .ref v0), (1, .int v1)]) (by decide +kernel) rfl rfl (Nat.le_of_ble_eq_true rfl) ?_
  intro p l e s m args below meth c D cA B Hb C hin
  unfold f_X12_refuse at hf0
  refine r_aload_n C dX12_refuse_0 rfl ?_
  refine r_iload_n C dX12_refuse_1 rfl ?_
  obtain ⟨h1, e2, hf0⟩ := ob hf0
  refine r_putI C fk_X12_103 dX12_refuse_2 e2 ?_
  refine r_iconst (v := -1) C dX12_refuse_5 (by decide) ?_
  obtain rfl := so hf0
  exact r_iret C dX12_refuse_6
def f_X12_gives (h : aH) (v0 : Nat) (v1 : Int32) : Option (Int32 × aH) := (pI h 12 v0 3 (0 : Int32)).bind fun h1 => some (v1, h1)
theorem s_X12_gives {h : aH} {v0 : Nat} {v1 : Int32} {out : Int32 × aH} (hf0 : f_X12_gives h v0 v1 = some out) : EV 0 yX12_gives cX12_gives 2 (some .int) h [.ref v0, .int v1] (some (.int out.1)) out.2 0 0 := by
  refine EV.of (own := RX12) (lv0 := [(0, .ref v0), (1, .int v1)]) (by decide +kernel) rfl rfl (Nat.le_of_ble_eq_true rfl) ?_
  intro p l e s m args below meth c D cA B Hb C hin
  unfold f_X12_gives at hf0
  refine r_aload_n C dX12_gives_0 rfl ?_
  refine r_iconst (v := 0) C dX12_gives_1 (by decide) ?_
  obtain ⟨h1, e2, hf0⟩ := ob hf0
  refine r_putI C fk_X12_103 dX12_gives_2 e2 ?_
  refine r_iload_n C dX12_gives_5 rfl ?_
  obtain rfl := so hf0
  exact r_iret C dX12_gives_6
def f_X12_tellsBy_b6 (h : aH) (v0 : Nat) (v1 : Int64) (v3 : Int64) (v5 : Int64) (v7 : Int64) : Option ((Int64 × Int64) ⊕ (Int64)) := if (lg_cmp v7 (0 : Int64)) = 0 then some (.inr v5) else (nzL v7).bind fun _ => (some (v5 - v5 / v7 * v7)).bind fun t1 => some (.inl (v7, t1))
def f_X12_tellsBy_l6 (h : aH) (v0 : Nat) (v1 : Int64) (v3 : Int64) (v5 : Int64) (v7 : Int64) : Option (Int64) := whileL wN (fun q : Int64 × Int64 => f_X12_tellsBy_b6 h v0 v1 v3 q.1 q.2) (v5, v7)
def f_X12_tellsBy (h : aH) (v0 : Nat) (v1 : Int64) (v3 : Int64) : Option (Int32 × aH) := (f_X12_tellsBy_l6 h v0 v1 v3 v1 v3).bind fun t2 => (nzL t2).bind fun _ => (pJ h 12 v0 4 (v1 / t2)).bind fun h3 => (nzL t2).bind fun _ => (pJ h3 12 v0 5 (v3 / t2)).bind fun h4 => (ck h4 12 v0).bind fun _ => bd2 (f_X12_is h4 v0 (0 : Int32)) fun t5 h6 => (rZ t5).bind fun t7 => some (t7, h6)
theorem s_X12_tellsBy {h : aH} {v0 : Nat} {v1 : Int64} {v3 : Int64} {out : Int32 × aH} (hf0 : f_X12_tellsBy h v0 v1 v3 = some out) : EV 1 yX12_tellsBy cX12_tellsBy 11 (some .boolean) h [.ref v0, .long v1, .long v3] (some (.int out.1)) out.2 0 0 := by
  refine EV.of (own := RX12) (lv0 := [(0, .ref v0), (1, .long v1), (3, .long v3)]) (by decide +kernel) rfl rfl (Nat.le_of_ble_eq_true rfl) ?_
  intro p l e s m args below meth c D cA B Hb C hin
  unfold f_X12_tellsBy at hf0
  refine r_lload_n C dX12_tellsBy_0 rfl ?_
  refine r_lstore (lv' := [(5, .long v1), (0, .ref v0), (1, .long v1), (3, .long v3)]) C dX12_tellsBy_1 (by decide) rfl rfl ?_
  refine r_lload_n C dX12_tellsBy_3 rfl ?_
  refine r_lstore (lv' := [(7, .long v3), (5, .long v1), (0, .ref v0), (1, .long v1), (3, .long v3)]) C dX12_tellsBy_4 (by decide) rfl rfl ?_
  obtain ⟨y1, hl6, hf0⟩ := ob hf0
  have L6 : ∀ (n : Nat) (t2 : Int64) (t3 : Int64), whileL n (fun q : Int64 × Int64 => f_X12_tellsBy_b6 h v0 v1 v3 q.1 q.2) (t2, t3) = some y1 → gW p l e (rmO 1 0 0) s m args below meth c (MQ below (eQ D cA B Hb out.2 (some (.int out.1))) args s 0 0 (fun q => B ≤ q)) D cA B Hb 11 h 6 [(0, .ref v0), (1, .long v1), (3, .long v3), (5, .long t2), (7, .long t3)] [] 0 0 := by
    intro n
    induction n with
    | zero => intro t2 t3 hz; cases hz
    | succ n ih6 =>
      intro t2 t3 hz
      obtain ⟨x6, hf1, hk6⟩ := wl hz
      replace hf1 : f_X12_tellsBy_b6 h v0 v1 v3 t2 t3 = some x6 := hf1
      unfold f_X12_tellsBy_b6 at hf1
      refine r_lload C dX12_tellsBy_6 rfl ?_
      refine r_lconst (v := 0) C dX12_tellsBy_8 (by decide) ?_
      refine r_lcmp C dX12_tellsBy_9 ?_
      refine r_ifeq (tgt := 31) C dX12_tellsBy_10 (by decide) (fun c4 => ?_) (fun c4 => ?_)
      · rw [if_pos c4] at hf1
        obtain rfl := so hf1
        obtain rfl := so (show some t2 = some y1 from hk6)
        refine r_aload_n C dX12_tellsBy_31 rfl ?_
        refine r_lload_n C dX12_tellsBy_32 rfl ?_
        refine r_lload C dX12_tellsBy_33 rfl ?_
        obtain ⟨u6, e5, hf0⟩ := ob hf0
        refine r_ldiv C dX12_tellsBy_35 (nzL_k e5) ?_
        obtain ⟨h7, e8, hf0⟩ := ob hf0
        refine r_putJ C fk_X12_106 dX12_tellsBy_36 e8 ?_
        refine r_aload_n C dX12_tellsBy_39 rfl ?_
        refine r_lload_n C dX12_tellsBy_40 rfl ?_
        refine r_lload C dX12_tellsBy_41 rfl ?_
        obtain ⟨u10, e9, hf0⟩ := ob hf0
        refine r_ldiv C dX12_tellsBy_43 (nzL_k e9) ?_
        obtain ⟨h11, e12, hf0⟩ := ob hf0
        refine r_putJ C fk_X12_20 dX12_tellsBy_44 e12 ?_
        refine r_aload_n C dX12_tellsBy_47 rfl ?_
        refine r_iconst (v := 0) C dX12_tellsBy_48 (by decide) ?_
        obtain ⟨u14, e13, hf0⟩ := ob hf0
        obtain ⟨t15, h16, e17, hf0⟩ := ob2 hf0
        refine r_cV (ci := 12) (rest := []) (st2 := [.int t15]) C (s_X12_is e17) mk_X12_is rfl (ck_k e13) (by decide) im_X12_is sl_X12_is lk_X12_109 rfl rfl rfl dX12_tellsBy_49 (Nat.le_of_ble_eq_true rfl) ⟨Nat.le_of_ble_eq_true rfl, Nat.le_of_ble_eq_true rfl⟩ ⟨Nat.le_of_ble_eq_true rfl, Nat.le_of_ble_eq_true rfl⟩ ?_
        obtain ⟨t18, e19, hf0⟩ := ob hf0
        obtain ⟨rfl, e19z⟩ := rZ_k e19
        obtain rfl := so hf0
        exact r_zret C dX12_tellsBy_52 e19z
      · rw [if_neg c4] at hf1
        refine r_lload C dX12_tellsBy_13 rfl ?_
        refine r_lload C dX12_tellsBy_15 rfl ?_
        obtain ⟨u21, e20, hf1⟩ := ob hf1
        refine r_lrem C dX12_tellsBy_17 (nzL_k e20) ?_
        obtain ⟨t22, e23, hf1⟩ := ob hf1
        refine r_lstore (lv' := [(9, .long t22), (0, .ref v0), (1, .long v1), (3, .long v3), (5, .long t2), (7, .long t3)]) C dX12_tellsBy_18 (by decide) e23 rfl ?_
        refine r_lload C dX12_tellsBy_20 rfl ?_
        refine r_lstore (lv' := [(5, .long t3), (9, .long t22), (0, .ref v0), (1, .long v1), (3, .long v3), (7, .long t3)]) C dX12_tellsBy_22 (by decide) rfl rfl ?_
        refine r_lload C dX12_tellsBy_24 rfl ?_
        refine r_lstore (lv' := [(7, .long t22), (5, .long t3), (9, .long t22), (0, .ref v0), (1, .long v1), (3, .long v3)]) C dX12_tellsBy_26 (by decide) rfl rfl ?_
        refine r_goto (tgt := 6) C dX12_tellsBy_28 (by decide) ?_
        obtain rfl := so hf1
        refine r_subk [3, 4, 5, 1, 0] (lv' := [(0, .ref v0), (1, .long v1), (3, .long v3), (5, .long t3), (7, .long t22)]) rfl ?_
        exact ih6 t3 t22 hk6
  refine r_subk [2, 3, 4, 1, 0] (lv' := [(0, .ref v0), (1, .long v1), (3, .long v3), (5, .long v1), (7, .long v3)]) rfl ?_
  exact L6 wN v1 v3 hl6
def f_X12_isTray (h : aH) (v0 : Int32) : Option (Int32) := if v0 < 0 then some (0 : Int32) else if (4 : Int32) ≤ v0 then some (0 : Int32) else some (1 : Int32)
theorem s_X12_isTray {h : aH} {v0 : Int32} {out : Int32} (hf0 : f_X12_isTray h v0 = some out) : EV 0 yX12_isTray cX12_isTray 1 (some .boolean) h [.int v0] (some (.int out)) h 0 0 := by
  refine EV.of (own := RX12) (lv0 := [(0, .int v0)]) (by decide +kernel) rfl rfl (Nat.le_of_ble_eq_true rfl) ?_
  intro p l e s m args below meth c D cA B Hb C hin
  unfold f_X12_isTray at hf0
  refine r_iload_n C dX12_isTray_0 rfl ?_
  refine r_iflt (tgt := 13) C dX12_isTray_1 (by decide) (fun c1 => ?_) (fun c1 => ?_)
  · rw [if_pos c1] at hf0
    refine r_iconst (v := 0) C dX12_isTray_13 (by decide) ?_
    obtain rfl := so hf0
    exact r_zret C dX12_isTray_14 (Or.inl rfl)
  · rw [if_neg c1] at hf0
    refine r_iload_n C dX12_isTray_4 rfl ?_
    refine r_iconst (v := 4) C dX12_isTray_5 (by decide) ?_
    refine r_icmp_ge (tgt := 13) C dX12_isTray_6 (by decide) (fun c2 => ?_) (fun c2 => ?_)
    · rw [if_pos c2] at hf0
      refine r_iconst (v := 0) C dX12_isTray_13 (by decide) ?_
      obtain rfl := so hf0
      exact r_zret C dX12_isTray_14 (Or.inl rfl)
    · rw [if_neg c2] at hf0
      refine r_iconst (v := 1) C dX12_isTray_9 (by decide) ?_
      refine r_goto (tgt := 14) C dX12_isTray_10 (by decide) ?_
      obtain rfl := so hf0
      exact r_zret C dX12_isTray_14 (Or.inr rfl)
def f_X12_cut (h : aH) (v0 : Int64) (v2 : Int32) : Option (Int64) := if v2 = 0 then some (Int32.toInt64 ((Int32.toInt8 (Int64.toInt32 v0)).toInt32)) else if v2 = (1 : Int32) then some (Int32.toInt64 ((Int32.toInt16 (Int64.toInt32 v0)).toInt32)) else if v2 = (2 : Int32) then some (Int32.toInt64 (Int64.toInt32 v0)) else some v0
theorem s_X12_cut {h : aH} {v0 : Int64} {v2 : Int32} {out : Int64} (hf0 : f_X12_cut h v0 v2 = some out) : EV 0 yX12_cut cX12_cut 3 (some .long) h [.long v0, .int v2] (some (.long out)) h 0 0 := by
  refine EV.of (own := RX12) (lv0 := [(0, .long v0), (2, .int v2)]) (by decide +kernel) rfl rfl (Nat.le_of_ble_eq_true rfl) ?_
  intro p l e s m args below meth c D cA B Hb C hin
  unfold f_X12_cut at hf0
  refine r_iload_n C dX12_cut_0 rfl ?_
  refine r_ifne (tgt := 11) C dX12_cut_1 (by decide) (fun c1 => ?_) (fun c1 => ?_)
  · rw [if_neg c1] at hf0
    refine r_iload_n C dX12_cut_11 rfl ?_
    refine r_iconst (v := 1) C dX12_cut_12 (by decide) ?_
    refine r_icmp_ne (tgt := 23) C dX12_cut_13 (by decide) (fun c2 => ?_) (fun c2 => ?_)
    · rw [if_neg c2] at hf0
      refine r_iload_n C dX12_cut_23 rfl ?_
      refine r_iconst (v := 2) C dX12_cut_24 (by decide) ?_
      refine r_icmp_ne (tgt := 34) C dX12_cut_25 (by decide) (fun c3 => ?_) (fun c3 => ?_)
      · rw [if_neg c3] at hf0
        refine r_lload_n C dX12_cut_34 rfl ?_
        obtain rfl := so hf0
        exact r_lret C dX12_cut_35
      · rw [if_pos c3] at hf0
        refine r_lload_n C dX12_cut_28 rfl ?_
        refine r_l2i C dX12_cut_29 ?_
        refine r_i2l C dX12_cut_30 ?_
        refine r_goto (tgt := 35) C dX12_cut_31 (by decide) ?_
        obtain rfl := so hf0
        exact r_lret C dX12_cut_35
    · rw [if_pos c2] at hf0
      refine r_lload_n C dX12_cut_16 rfl ?_
      refine r_l2i C dX12_cut_17 ?_
      refine r_i2s C dX12_cut_18 ?_
      refine r_i2l C dX12_cut_19 ?_
      refine r_goto (tgt := 35) C dX12_cut_20 (by decide) ?_
      obtain rfl := so hf0
      exact r_lret C dX12_cut_35
  · rw [if_pos c1] at hf0
    refine r_lload_n C dX12_cut_4 rfl ?_
    refine r_l2i C dX12_cut_5 ?_
    refine r_i2b C dX12_cut_6 ?_
    refine r_i2l C dX12_cut_7 ?_
    refine r_goto (tgt := 35) C dX12_cut_8 (by decide) ?_
    obtain rfl := so hf0
    exact r_lret C dX12_cut_35
def f_X12_tray_j26 (h : aH) (v0 : Nat) : Option (Int32 × aH) := (ck h 12 v0).bind fun _ => bd2 (f_X12_is h v0 (1 : Int32)) fun t1 h2 => (rZ t1).bind fun t3 => some (t3, h2)
def f_X12_tray_b49 (v0 : Nat) (v1 : Int32) (v3 : Int32) (v4 : Int32) (h : aH) : Option ((Int32 × aH) ⊕ (aH)) := if v3 ≤ v4 then some (.inr h) else (gR h 12 v0 8).bind fun t9 => (sJ h t9 (((60 : Int32) * v1) + v4) (0 : Int64)).bind fun h10 => (some (v4 + (1 : Int32))).bind fun t11 => some (.inl (t11, h10))
def f_X12_tray_l49 (v0 : Nat) (v1 : Int32) (v3 : Int32) (v4 : Int32) (h : aH) : Option (aH) := whileL wN (fun q : Int32 × aH => f_X12_tray_b49 v0 v1 v3 q.1 q.2) (v4, h)
def f_X12_tray (h : aH) (v0 : Nat) (v1 : Int32) (v2 : Int32) (v3 : Int32) : Option (Int32 × aH) := (f_X12_isTray h v1).bind fun t4 => if t4 = 0 then f_X12_tray_j26 h v0 else if v2 < 0 then f_X12_tray_j26 h v0 else if (3 : Int32) < v2 then f_X12_tray_j26 h v0 else if v3 < 0 then f_X12_tray_j26 h v0 else if v3 ≤ (60 : Int32) then (gR h 12 v0 6).bind fun t5 => (sI h t5 v1 v2).bind fun h6 => (gR h6 12 v0 7).bind fun t7 => (sI h6 t7 v1 v3).bind fun h8 => (f_X12_tray_l49 v0 v1 v3 (0 : Int32) h8).bind fun h12 => (ck h12 12 v0).bind fun _ => bd2 (f_X12_is h12 v0 (0 : Int32)) fun t13 h14 => (rZ t13).bind fun t15 => some (t15, h14) else f_X12_tray_j26 h v0
theorem s_X12_tray {h : aH} {v0 : Nat} {v1 : Int32} {v2 : Int32} {v3 : Int32} {out : Int32 × aH} (hf0 : f_X12_tray h v0 v1 v2 v3 = some out) : EV 1 yX12_tray cX12_tray 5 (some .boolean) h [.ref v0, .int v1, .int v2, .int v3] (some (.int out.1)) out.2 0 0 := by
  refine EV.of (own := RX12) (lv0 := [(0, .ref v0), (1, .int v1), (2, .int v2), (3, .int v3)]) (by decide +kernel) rfl rfl (Nat.le_of_ble_eq_true rfl) ?_
  intro p l e s m args below meth c D cA B Hb C hin
  unfold f_X12_tray at hf0
  have J26 : ∀ (h1 : aH) (t2 : Nat), f_X12_tray_j26 h1 t2 = some out → gW p l e (rmO 1 0 0) s m args below meth c (MQ below (eQ D cA B Hb out.2 (some (.int out.1))) args s 0 0 (fun q => B ≤ q)) D cA B Hb 5 h1 26 [(0, .ref t2)] [] 0 0 := by
    intro h1 t2 hf0
    unfold f_X12_tray_j26 at hf0
    refine r_aload_n C dX12_tray_26 rfl ?_
    refine r_iconst (v := 1) C dX12_tray_27 (by decide) ?_
    obtain ⟨u4, e3, hf0⟩ := ob hf0
    obtain ⟨t5, h6, e7, hf0⟩ := ob2 hf0
    refine r_cV (ci := 12) (rest := []) (st2 := [.int t5]) C (s_X12_is e7) mk_X12_is rfl (ck_k e3) (by decide) im_X12_is sl_X12_is lk_X12_109 rfl rfl rfl dX12_tray_28 (Nat.le_of_ble_eq_true rfl) ⟨Nat.le_of_ble_eq_true rfl, Nat.le_of_ble_eq_true rfl⟩ ⟨Nat.le_of_ble_eq_true rfl, Nat.le_of_ble_eq_true rfl⟩ ?_
    obtain ⟨t8, e9, hf0⟩ := ob hf0
    obtain ⟨rfl, e9z⟩ := rZ_k e9
    obtain rfl := so hf0
    exact r_zret C dX12_tray_31 e9z
  refine r_iload_n C dX12_tray_0 rfl ?_
  obtain ⟨t10, e11, hf0⟩ := ob hf0
  refine r_cS (rest := []) (st2 := [.int t10]) C (s_X12_isTray e11) mk_X12_isTray sm_X12_isTray lk_X12_113 rfl rfl rfl dX12_tray_1 (Nat.le_of_ble_eq_true rfl) ⟨Nat.le_of_ble_eq_true rfl, Nat.le_of_ble_eq_true rfl⟩ ⟨Nat.le_of_ble_eq_true rfl, Nat.le_of_ble_eq_true rfl⟩ ?_
  refine r_ifeq (tgt := 26) C dX12_tray_4 (by decide) (fun c12 => ?_) (fun c12 => ?_)
  · rw [if_pos c12] at hf0
    refine r_subk [0] (lv' := [(0, .ref v0)]) rfl ?_
    exact J26 h v0 hf0
  · rw [if_neg c12] at hf0
    refine r_iload_n C dX12_tray_7 rfl ?_
    refine r_iflt (tgt := 26) C dX12_tray_8 (by decide) (fun c13 => ?_) (fun c13 => ?_)
    · rw [if_pos c13] at hf0
      refine r_subk [0] (lv' := [(0, .ref v0)]) rfl ?_
      exact J26 h v0 hf0
    · rw [if_neg c13] at hf0
      refine r_iload_n C dX12_tray_11 rfl ?_
      refine r_iconst (v := 3) C dX12_tray_12 (by decide) ?_
      refine r_icmp_gt (tgt := 26) C dX12_tray_13 (by decide) (fun c14 => ?_) (fun c14 => ?_)
      · rw [if_pos c14] at hf0
        refine r_subk [0] (lv' := [(0, .ref v0)]) rfl ?_
        exact J26 h v0 hf0
      · rw [if_neg c14] at hf0
        refine r_iload_n C dX12_tray_16 rfl ?_
        refine r_iflt (tgt := 26) C dX12_tray_17 (by decide) (fun c15 => ?_) (fun c15 => ?_)
        · rw [if_pos c15] at hf0
          refine r_subk [0] (lv' := [(0, .ref v0)]) rfl ?_
          exact J26 h v0 hf0
        · rw [if_neg c15] at hf0
          refine r_iload_n C dX12_tray_20 rfl ?_
          refine r_bipush (v := 60) C dX12_tray_21 (by decide) ?_
          refine r_icmp_le (tgt := 32) C dX12_tray_23 (by decide) (fun c16 => ?_) (fun c16 => ?_)
          · rw [if_pos c16] at hf0
            refine r_aload_n C dX12_tray_32 rfl ?_
            obtain ⟨t17, e18, hf0⟩ := ob hf0
            refine r_getR C fk_X12_24 rfl dX12_tray_33 e18 ?_
            refine r_iload_n C dX12_tray_36 rfl ?_
            refine r_iload_n C dX12_tray_37 rfl ?_
            obtain ⟨h19, e20, hf0⟩ := ob hf0
            refine r_stI C dX12_tray_38 e20 ?_
            refine r_aload_n C dX12_tray_39 rfl ?_
            obtain ⟨t21, e22, hf0⟩ := ob hf0
            refine r_getR C fk_X12_27 rfl dX12_tray_40 e22 ?_
            refine r_iload_n C dX12_tray_43 rfl ?_
            refine r_iload_n C dX12_tray_44 rfl ?_
            obtain ⟨h23, e24, hf0⟩ := ob hf0
            refine r_stI C dX12_tray_45 e24 ?_
            refine r_iconst (v := 0) C dX12_tray_46 (by decide) ?_
            refine r_istore (lv' := [(4, .int (0 : Int32)), (0, .ref v0), (1, .int v1), (2, .int v2), (3, .int v3)]) C dX12_tray_47 (by decide) rfl rfl ?_
            obtain ⟨y25, hl49, hf0⟩ := ob hf0
            have L49 : ∀ (n : Nat) (t26 : Int32) (h27 : aH), whileL n (fun q : Int32 × aH => f_X12_tray_b49 v0 v1 v3 q.1 q.2) (t26, h27) = some y25 → gW p l e (rmO 1 0 0) s m args below meth c (MQ below (eQ D cA B Hb out.2 (some (.int out.1))) args s 0 0 (fun q => B ≤ q)) D cA B Hb 5 h27 49 [(0, .ref v0), (1, .int v1), (3, .int v3), (4, .int t26)] [] 0 0 := by
              intro n
              induction n with
              | zero => intro t26 h27 hz; cases hz
              | succ n ih49 =>
                intro t26 h27 hz
                obtain ⟨x49, hf1, hk49⟩ := wl hz
                replace hf1 : f_X12_tray_b49 v0 v1 v3 t26 h27 = some x49 := hf1
                unfold f_X12_tray_b49 at hf1
                refine r_iload C dX12_tray_49 rfl ?_
                refine r_iload_n C dX12_tray_51 rfl ?_
                refine r_icmp_ge (tgt := 74) C dX12_tray_52 (by decide) (fun c28 => ?_) (fun c28 => ?_)
                · rw [if_pos c28] at hf1
                  obtain rfl := so hf1
                  obtain rfl := so (show some h27 = some y25 from hk49)
                  refine r_aload_n C dX12_tray_74 rfl ?_
                  refine r_iconst (v := 0) C dX12_tray_75 (by decide) ?_
                  obtain ⟨u30, e29, hf0⟩ := ob hf0
                  obtain ⟨t31, h32, e33, hf0⟩ := ob2 hf0
                  refine r_cV (ci := 12) (rest := []) (st2 := [.int t31]) C (s_X12_is e33) mk_X12_is rfl (ck_k e29) (by decide) im_X12_is sl_X12_is lk_X12_109 rfl rfl rfl dX12_tray_76 (Nat.le_of_ble_eq_true rfl) ⟨Nat.le_of_ble_eq_true rfl, Nat.le_of_ble_eq_true rfl⟩ ⟨Nat.le_of_ble_eq_true rfl, Nat.le_of_ble_eq_true rfl⟩ ?_
                  obtain ⟨t34, e35, hf0⟩ := ob hf0
                  obtain ⟨rfl, e35z⟩ := rZ_k e35
                  obtain rfl := so hf0
                  exact r_zret C dX12_tray_79 e35z
                · rw [if_neg c28] at hf1
                  refine r_aload_n C dX12_tray_55 rfl ?_
                  obtain ⟨t36, e37, hf1⟩ := ob hf1
                  refine r_getR C fk_X12_30 rfl dX12_tray_56 e37 ?_
                  refine r_bipush (v := 60) C dX12_tray_59 (by decide) ?_
                  refine r_iload_n C dX12_tray_61 rfl ?_
                  refine r_imul C dX12_tray_62 ?_
                  refine r_iload C dX12_tray_63 rfl ?_
                  refine r_iadd C dX12_tray_65 ?_
                  refine r_lconst (v := 0) C dX12_tray_66 (by decide) ?_
                  obtain ⟨h38, e39, hf1⟩ := ob hf1
                  refine r_stJ C dX12_tray_67 e39 ?_
                  obtain ⟨t40, e41, hf1⟩ := ob hf1
                  refine r_iinc (lv' := [(4, .int t40), (0, .ref v0), (1, .int v1), (3, .int v3)]) C dX12_tray_68 rfl e41 (by decide) rfl ?_
                  refine r_goto (tgt := 49) C dX12_tray_71 (by decide) ?_
                  obtain rfl := so hf1
                  refine r_subk [1, 2, 3, 0] (lv' := [(0, .ref v0), (1, .int v1), (3, .int v3), (4, .int t40)]) rfl ?_
                  exact ih49 t40 h38 hk49
            refine r_subk [1, 2, 4, 0] (lv' := [(0, .ref v0), (1, .int v1), (3, .int v3), (4, .int (0 : Int32))]) rfl ?_
            exact L49 wN (0 : Int32) h23 hl49
          · rw [if_neg c16] at hf0
            refine r_subk [0] (lv' := [(0, .ref v0)]) rfl ?_
            exact J26 h v0 hf0
def f_X12_wrongPlace (h : aH) (v0 : Nat) (v1 : Int32) (v2 : Int32) : Option (Int32) := (f_X12_isTray h v1).bind fun t1 => if t1 = 0 then some (1 : Int32) else (gR h 12 v0 7).bind fun t2 => (lI h t2 v1).bind fun t3 => if t3 = (-1 : Int32) then some (2 : Int32) else if v2 < 0 then some (3 : Int32) else (gR h 12 v0 7).bind fun t4 => (lI h t4 v1).bind fun t5 => if v2 < t5 then some (0 : Int32) else some (3 : Int32)
theorem s_X12_wrongPlace {h : aH} {v0 : Nat} {v1 : Int32} {v2 : Int32} {out : Int32} (hf0 : f_X12_wrongPlace h v0 v1 v2 = some out) : EV 1 yX12_wrongPlace cX12_wrongPlace 3 (some .int) h [.ref v0, .int v1, .int v2] (some (.int out)) h 0 0 := by
  refine EV.of (own := RX12) (lv0 := [(0, .ref v0), (1, .int v1), (2, .int v2)]) (by decide +kernel) rfl rfl (Nat.le_of_ble_eq_true rfl) ?_
  intro p l e s m args below meth c D cA B Hb C hin
  unfold f_X12_wrongPlace at hf0
  refine r_iload_n C dX12_wrongPlace_0 rfl ?_
  obtain ⟨t1, e2, hf0⟩ := ob hf0
  refine r_cS (rest := []) (st2 := [.int t1]) C (s_X12_isTray e2) mk_X12_isTray sm_X12_isTray lk_X12_113 rfl rfl rfl dX12_wrongPlace_1 (Nat.le_of_ble_eq_true rfl) ⟨Nat.le_of_ble_eq_true rfl, Nat.le_of_ble_eq_true rfl⟩ ⟨Nat.le_of_ble_eq_true rfl, Nat.le_of_ble_eq_true rfl⟩ ?_
  refine r_ifne (tgt := 11) C dX12_wrongPlace_4 (by decide) (fun c3 => ?_) (fun c3 => ?_)
  · rw [if_neg c3] at hf0
    refine r_aload_n C dX12_wrongPlace_11 rfl ?_
    obtain ⟨t4, e5, hf0⟩ := ob hf0
    refine r_getR C fk_X12_27 rfl dX12_wrongPlace_12 e5 ?_
    refine r_iload_n C dX12_wrongPlace_15 rfl ?_
    obtain ⟨t6, e7, hf0⟩ := ob hf0
    refine r_ldI C dX12_wrongPlace_16 e7 ?_
    refine r_iconst (v := -1) C dX12_wrongPlace_17 (by decide) ?_
    refine r_icmp_ne (tgt := 25) C dX12_wrongPlace_18 (by decide) (fun c8 => ?_) (fun c8 => ?_)
    · rw [if_neg c8] at hf0
      refine r_iload_n C dX12_wrongPlace_25 rfl ?_
      refine r_iflt (tgt := 39) C dX12_wrongPlace_26 (by decide) (fun c9 => ?_) (fun c9 => ?_)
      · rw [if_pos c9] at hf0
        refine r_iconst (v := 3) C dX12_wrongPlace_39 (by decide) ?_
        refine r_goto (tgt := 44) C dX12_wrongPlace_40 (by decide) ?_
        obtain rfl := so hf0
        exact r_iret C dX12_wrongPlace_44
      · rw [if_neg c9] at hf0
        refine r_iload_n C dX12_wrongPlace_29 rfl ?_
        refine r_aload_n C dX12_wrongPlace_30 rfl ?_
        obtain ⟨t10, e11, hf0⟩ := ob hf0
        refine r_getR C fk_X12_27 rfl dX12_wrongPlace_31 e11 ?_
        refine r_iload_n C dX12_wrongPlace_34 rfl ?_
        obtain ⟨t12, e13, hf0⟩ := ob hf0
        refine r_ldI C dX12_wrongPlace_35 e13 ?_
        refine r_icmp_lt (tgt := 43) C dX12_wrongPlace_36 (by decide) (fun c14 => ?_) (fun c14 => ?_)
        · rw [if_pos c14] at hf0
          refine r_iconst (v := 0) C dX12_wrongPlace_43 (by decide) ?_
          obtain rfl := so hf0
          exact r_iret C dX12_wrongPlace_44
        · rw [if_neg c14] at hf0
          refine r_iconst (v := 3) C dX12_wrongPlace_39 (by decide) ?_
          refine r_goto (tgt := 44) C dX12_wrongPlace_40 (by decide) ?_
          obtain rfl := so hf0
          exact r_iret C dX12_wrongPlace_44
    · rw [if_pos c8] at hf0
      refine r_iconst (v := 2) C dX12_wrongPlace_21 (by decide) ?_
      refine r_goto (tgt := 44) C dX12_wrongPlace_22 (by decide) ?_
      obtain rfl := so hf0
      exact r_iret C dX12_wrongPlace_44
  · rw [if_pos c3] at hf0
    refine r_iconst (v := 1) C dX12_wrongPlace_7 (by decide) ?_
    refine r_goto (tgt := 44) C dX12_wrongPlace_8 (by decide) ?_
    obtain rfl := so hf0
    exact r_iret C dX12_wrongPlace_44
def f_X12_write_j34 (h : aH) (v0 : Nat) (v5 : Int32) : Option (Int32 × aH) := (ck h 12 v0).bind fun _ => bd2 (f_X12_is h v0 v5) fun t1 h2 => (rZ t1).bind fun t3 => some (t3, h2)
def f_X12_write (h : aH) (v0 : Nat) (v1 : Int32) (v2 : Int32) (v3 : Int64) : Option (Int32 × aH) := (ck h 12 v0).bind fun _ => (f_X12_wrongPlace h v0 v1 v2).bind fun t4 => if t4 = 0 then (gR h 12 v0 8).bind fun t5 => (gR h 12 v0 6).bind fun t6 => (lI h t6 v1).bind fun t7 => (f_X12_cut h v3 t7).bind fun t8 => (sJ h t5 (((60 : Int32) * v1) + v2) t8).bind fun h9 => f_X12_write_j34 h9 v0 t4 else f_X12_write_j34 h v0 t4
theorem s_X12_write {h : aH} {v0 : Nat} {v1 : Int32} {v2 : Int32} {v3 : Int64} {out : Int32 × aH} (hf0 : f_X12_write h v0 v1 v2 v3 = some out) : EV 2 yX12_write cX12_write 6 (some .boolean) h [.ref v0, .int v1, .int v2, .long v3] (some (.int out.1)) out.2 0 0 := by
  refine EV.of (own := RX12) (lv0 := [(0, .ref v0), (1, .int v1), (2, .int v2), (3, .long v3)]) (by decide +kernel) rfl rfl (Nat.le_of_ble_eq_true rfl) ?_
  intro p l e s m args below meth c D cA B Hb C hin
  unfold f_X12_write at hf0
  have J34 : ∀ (h1 : aH) (t2 : Nat) (t3 : Int32), f_X12_write_j34 h1 t2 t3 = some out → gW p l e (rmO 2 0 0) s m args below meth c (MQ below (eQ D cA B Hb out.2 (some (.int out.1))) args s 0 0 (fun q => B ≤ q)) D cA B Hb 6 h1 34 [(0, .ref t2), (5, .int t3)] [] 0 0 := by
    intro h1 t2 t3 hf0
    unfold f_X12_write_j34 at hf0
    refine r_aload_n C dX12_write_34 rfl ?_
    refine r_iload C dX12_write_35 rfl ?_
    obtain ⟨u5, e4, hf0⟩ := ob hf0
    obtain ⟨t6, h7, e8, hf0⟩ := ob2 hf0
    refine r_cV (ci := 12) (rest := []) (st2 := [.int t6]) C (s_X12_is e8) mk_X12_is rfl (ck_k e4) (by decide) im_X12_is sl_X12_is lk_X12_109 rfl rfl rfl dX12_write_37 (Nat.le_of_ble_eq_true rfl) ⟨Nat.le_of_ble_eq_true rfl, Nat.le_of_ble_eq_true rfl⟩ ⟨Nat.le_of_ble_eq_true rfl, Nat.le_of_ble_eq_true rfl⟩ ?_
    obtain ⟨t9, e10, hf0⟩ := ob hf0
    obtain ⟨rfl, e10z⟩ := rZ_k e10
    obtain rfl := so hf0
    exact r_zret C dX12_write_40 e10z
  refine r_aload_n C dX12_write_0 rfl ?_
  refine r_iload_n C dX12_write_1 rfl ?_
  refine r_iload_n C dX12_write_2 rfl ?_
  obtain ⟨u12, e11, hf0⟩ := ob hf0
  obtain ⟨t13, e14, hf0⟩ := ob hf0
  refine r_cV (ci := 12) (rest := []) (st2 := [.int t13]) C (s_X12_wrongPlace e14) mk_X12_wrongPlace rfl (ck_k e11) (by decide) im_X12_wrongPlace sl_X12_wrongPlace lk_X12_116 rfl rfl rfl dX12_write_3 (Nat.le_of_ble_eq_true rfl) ⟨Nat.le_of_ble_eq_true rfl, Nat.le_of_ble_eq_true rfl⟩ ⟨Nat.le_of_ble_eq_true rfl, Nat.le_of_ble_eq_true rfl⟩ ?_
  refine r_istore (lv' := [(5, .int t13), (0, .ref v0), (1, .int v1), (2, .int v2), (3, .long v3)]) C dX12_write_6 (by decide) rfl rfl ?_
  refine r_iload C dX12_write_8 rfl ?_
  refine r_ifne (tgt := 34) C dX12_write_10 (by decide) (fun c15 => ?_) (fun c15 => ?_)
  · rw [if_neg c15] at hf0
    refine r_subk [1, 0] (lv' := [(0, .ref v0), (5, .int t13)]) rfl ?_
    exact J34 h v0 t13 hf0
  · rw [if_pos c15] at hf0
    refine r_aload_n C dX12_write_13 rfl ?_
    obtain ⟨t16, e17, hf0⟩ := ob hf0
    refine r_getR C fk_X12_30 rfl dX12_write_14 e17 ?_
    refine r_bipush (v := 60) C dX12_write_17 (by decide) ?_
    refine r_iload_n C dX12_write_19 rfl ?_
    refine r_imul C dX12_write_20 ?_
    refine r_iload_n C dX12_write_21 rfl ?_
    refine r_iadd C dX12_write_22 ?_
    refine r_lload_n C dX12_write_23 rfl ?_
    refine r_aload_n C dX12_write_24 rfl ?_
    obtain ⟨t18, e19, hf0⟩ := ob hf0
    refine r_getR C fk_X12_24 rfl dX12_write_25 e19 ?_
    refine r_iload_n C dX12_write_28 rfl ?_
    obtain ⟨t20, e21, hf0⟩ := ob hf0
    refine r_ldI C dX12_write_29 e21 ?_
    obtain ⟨t22, e23, hf0⟩ := ob hf0
    refine r_cS (rest := [.int (((60 : Int32) * v1) + v2), .ref t16]) (st2 := [.long t22, .int (((60 : Int32) * v1) + v2), .ref t16]) C (s_X12_cut e23) mk_X12_cut sm_X12_cut lk_X12_120 rfl rfl rfl dX12_write_30 (Nat.le_of_ble_eq_true rfl) ⟨Nat.le_of_ble_eq_true rfl, Nat.le_of_ble_eq_true rfl⟩ ⟨Nat.le_of_ble_eq_true rfl, Nat.le_of_ble_eq_true rfl⟩ ?_
    obtain ⟨h24, e25, hf0⟩ := ob hf0
    refine r_stJ C dX12_write_33 e25 ?_
    refine r_subk [1, 0] (lv' := [(0, .ref v0), (5, .int t13)]) rfl ?_
    exact J34 h24 v0 t13 hf0
def f_X12_read (h : aH) (v0 : Nat) (v1 : Int32) (v2 : Int32) : Option (Int64 × aH) := (ck h 12 v0).bind fun _ => (f_X12_wrongPlace h v0 v1 v2).bind fun t1 => (pI h 12 v0 3 t1).bind fun h2 => (gI h2 12 v0 3).bind fun t3 => if t3 ≤ 0 then (gR h2 12 v0 8).bind fun t4 => (lJ h2 t4 (((60 : Int32) * v1) + v2)).bind fun t5 => some (t5, h2) else some ((-1 : Int64), h2)
theorem s_X12_read {h : aH} {v0 : Nat} {v1 : Int32} {v2 : Int32} {out : Int64 × aH} (hf0 : f_X12_read h v0 v1 v2 = some out) : EV 2 yX12_read cX12_read 3 (some .long) h [.ref v0, .int v1, .int v2] (some (.long out.1)) out.2 0 0 := by
  refine EV.of (own := RX12) (lv0 := [(0, .ref v0), (1, .int v1), (2, .int v2)]) (by decide +kernel) rfl rfl (Nat.le_of_ble_eq_true rfl) ?_
  intro p l e s m args below meth c D cA B Hb C hin
  unfold f_X12_read at hf0
  refine r_aload_n C dX12_read_0 rfl ?_
  refine r_aload_n C dX12_read_1 rfl ?_
  refine r_iload_n C dX12_read_2 rfl ?_
  refine r_iload_n C dX12_read_3 rfl ?_
  obtain ⟨u2, e1, hf0⟩ := ob hf0
  obtain ⟨t3, e4, hf0⟩ := ob hf0
  refine r_cV (ci := 12) (rest := [.ref v0]) (st2 := [.int t3, .ref v0]) C (s_X12_wrongPlace e4) mk_X12_wrongPlace rfl (ck_k e1) (by decide) im_X12_wrongPlace sl_X12_wrongPlace lk_X12_116 rfl rfl rfl dX12_read_4 (Nat.le_of_ble_eq_true rfl) ⟨Nat.le_of_ble_eq_true rfl, Nat.le_of_ble_eq_true rfl⟩ ⟨Nat.le_of_ble_eq_true rfl, Nat.le_of_ble_eq_true rfl⟩ ?_
  obtain ⟨h5, e6, hf0⟩ := ob hf0
  refine r_putI C fk_X12_103 dX12_read_7 e6 ?_
  refine r_aload_n C dX12_read_10 rfl ?_
  obtain ⟨t7, e8, hf0⟩ := ob hf0
  refine r_getI C fk_X12_103 rfl dX12_read_11 e8 ?_
  refine r_ifle (tgt := 23) C dX12_read_14 (by decide) (fun c9 => ?_) (fun c9 => ?_)
  · rw [if_pos c9] at hf0
    refine r_aload_n C dX12_read_23 rfl ?_
    obtain ⟨t10, e11, hf0⟩ := ob hf0
    refine r_getR C fk_X12_30 rfl dX12_read_24 e11 ?_
    refine r_bipush (v := 60) C dX12_read_27 (by decide) ?_
    refine r_iload_n C dX12_read_29 rfl ?_
    refine r_imul C dX12_read_30 ?_
    refine r_iload_n C dX12_read_31 rfl ?_
    refine r_iadd C dX12_read_32 ?_
    obtain ⟨t12, e13, hf0⟩ := ob hf0
    refine r_ldJ C dX12_read_33 e13 ?_
    obtain rfl := so hf0
    exact r_lret C dX12_read_34
  · rw [if_neg c9] at hf0
    refine r_ldc2 (v := -1) C dX12_read_17 cl_X12_124 ?_
    refine r_goto (tgt := 34) C dX12_read_20 (by decide) ?_
    obtain rfl := so hf0
    exact r_lret C dX12_read_34
def f_X12_pour_j109 (h : aH) (v0 : Nat) : Option (Int32 × aH) := (ck h 12 v0).bind fun _ => bd2 (f_X12_is h v0 (3 : Int32)) fun t1 h2 => (rZ t1).bind fun t3 => some (t3, h2)
def f_X12_pour_j54 (h : aH) (v0 : Nat) : Option (Int32 × aH) := (ck h 12 v0).bind fun _ => bd2 (f_X12_is h v0 (2 : Int32)) fun t4 h5 => (rZ t4).bind fun t6 => some (t6, h5)
def f_X12_pour_j28 (h : aH) (v0 : Nat) : Option (Int32 × aH) := (ck h 12 v0).bind fun _ => bd2 (f_X12_is h v0 (1 : Int32)) fun t7 h8 => (rZ t7).bind fun t9 => some (t9, h8)
def f_X12_pour_j143 (h : aH) (v0 : Nat) (v1 : Int32) (v2 : Int32) (v3 : Int32) (v4 : Int32) (v5 : Int32) (v6 : Int32) (s0 : Int32) : Option ((Int32 × aH) ⊕ (aH)) := (gR h 12 v0 8).bind fun t24 => (gR h 12 v0 8).bind fun t25 => (lJ h t25 ((((60 : Int32) * v1) + v2) + s0)).bind fun t26 => (sJ h t24 ((((60 : Int32) * v3) + v4) + s0) t26).bind fun h27 => (some (v6 + (1 : Int32))).bind fun t28 => some (.inl (t28, h27))
def f_X12_pour_b118 (v0 : Nat) (v1 : Int32) (v2 : Int32) (v3 : Int32) (v4 : Int32) (v5 : Int32) (v6 : Int32) (h : aH) : Option ((Int32 × aH) ⊕ (aH)) := if v5 ≤ v6 then some (.inr h) else if v4 ≤ v2 then f_X12_pour_j143 h v0 v1 v2 v3 v4 v5 v6 v6 else f_X12_pour_j143 h v0 v1 v2 v3 v4 v5 v6 ((v5 - (1 : Int32)) - v6)
def f_X12_pour_l118 (v0 : Nat) (v1 : Int32) (v2 : Int32) (v3 : Int32) (v4 : Int32) (v5 : Int32) (v6 : Int32) (h : aH) : Option (aH) := whileL wN (fun q : Int32 × aH => f_X12_pour_b118 v0 v1 v2 v3 v4 v5 q.1 q.2) (v6, h)
def f_X12_pour (h : aH) (v0 : Nat) (v1 : Int32) (v2 : Int32) (v3 : Int32) (v4 : Int32) (v5 : Int32) : Option (Int32 × aH) := (f_X12_isTray h v1).bind fun t10 => if t10 = 0 then f_X12_pour_j28 h v0 else (f_X12_isTray h v3).bind fun t11 => if t11 = 0 then f_X12_pour_j28 h v0 else if v2 < 0 then f_X12_pour_j28 h v0 else if v4 < 0 then f_X12_pour_j28 h v0 else if 0 ≤ v5 then (gR h 12 v0 7).bind fun t12 => (lI h t12 v1).bind fun t13 => if t13 = (-1 : Int32) then f_X12_pour_j54 h v0 else (gR h 12 v0 7).bind fun t14 => (lI h t14 v3).bind fun t15 => if t15 = (-1 : Int32) then f_X12_pour_j54 h v0 else (gR h 12 v0 6).bind fun t16 => (lI h t16 v1).bind fun t17 => (gR h 12 v0 6).bind fun t18 => (lI h t18 v3).bind fun t19 => if t17 = t19 then (gR h 12 v0 7).bind fun t20 => (lI h t20 v1).bind fun t21 => if (t21 - v2) < v5 then f_X12_pour_j109 h v0 else (gR h 12 v0 7).bind fun t22 => (lI h t22 v3).bind fun t23 => if v5 ≤ (t23 - v4) then (f_X12_pour_l118 v0 v1 v2 v3 v4 v5 (0 : Int32) h).bind fun h29 => (ck h29 12 v0).bind fun _ => bd2 (f_X12_is h29 v0 (0 : Int32)) fun t30 h31 => (rZ t30).bind fun t32 => some (t32, h31) else f_X12_pour_j109 h v0 else (ck h 12 v0).bind fun _ => bd2 (f_X12_is h v0 (8 : Int32)) fun t33 h34 => (rZ t33).bind fun t35 => some (t35, h34) else f_X12_pour_j28 h v0
theorem s_X12_pour {h : aH} {v0 : Nat} {v1 : Int32} {v2 : Int32} {v3 : Int32} {v4 : Int32} {v5 : Int32} {out : Int32 × aH} (hf0 : f_X12_pour h v0 v1 v2 v3 v4 v5 = some out) : EV 1 yX12_pour cX12_pour 8 (some .boolean) h [.ref v0, .int v1, .int v2, .int v3, .int v4, .int v5] (some (.int out.1)) out.2 0 0 := by
  refine EV.of (own := RX12) (lv0 := [(0, .ref v0), (1, .int v1), (2, .int v2), (3, .int v3), (4, .int v4), (5, .int v5)]) (by decide +kernel) rfl rfl (Nat.le_of_ble_eq_true rfl) ?_
  intro p l e s m args below meth c D cA B Hb C hin
  unfold f_X12_pour at hf0
  have J109 : ∀ (h1 : aH) (t2 : Nat), f_X12_pour_j109 h1 t2 = some out → gW p l e (rmO 1 0 0) s m args below meth c (MQ below (eQ D cA B Hb out.2 (some (.int out.1))) args s 0 0 (fun q => B ≤ q)) D cA B Hb 8 h1 109 [(0, .ref t2)] [] 0 0 := by
    intro h1 t2 hf0
    unfold f_X12_pour_j109 at hf0
    refine r_aload_n C dX12_pour_109 rfl ?_
    refine r_iconst (v := 3) C dX12_pour_110 (by decide) ?_
    obtain ⟨u4, e3, hf0⟩ := ob hf0
    obtain ⟨t5, h6, e7, hf0⟩ := ob2 hf0
    refine r_cV (ci := 12) (rest := []) (st2 := [.int t5]) C (s_X12_is e7) mk_X12_is rfl (ck_k e3) (by decide) im_X12_is sl_X12_is lk_X12_109 rfl rfl rfl dX12_pour_111 (Nat.le_of_ble_eq_true rfl) ⟨Nat.le_of_ble_eq_true rfl, Nat.le_of_ble_eq_true rfl⟩ ⟨Nat.le_of_ble_eq_true rfl, Nat.le_of_ble_eq_true rfl⟩ ?_
    obtain ⟨t8, e9, hf0⟩ := ob hf0
    obtain ⟨rfl, e9z⟩ := rZ_k e9
    obtain rfl := so hf0
    exact r_zret C dX12_pour_114 e9z
  have J54 : ∀ (h10 : aH) (t11 : Nat), f_X12_pour_j54 h10 t11 = some out → gW p l e (rmO 1 0 0) s m args below meth c (MQ below (eQ D cA B Hb out.2 (some (.int out.1))) args s 0 0 (fun q => B ≤ q)) D cA B Hb 8 h10 54 [(0, .ref t11)] [] 0 0 := by
    intro h10 t11 hf0
    unfold f_X12_pour_j54 at hf0
    refine r_aload_n C dX12_pour_54 rfl ?_
    refine r_iconst (v := 2) C dX12_pour_55 (by decide) ?_
    obtain ⟨u13, e12, hf0⟩ := ob hf0
    obtain ⟨t14, h15, e16, hf0⟩ := ob2 hf0
    refine r_cV (ci := 12) (rest := []) (st2 := [.int t14]) C (s_X12_is e16) mk_X12_is rfl (ck_k e12) (by decide) im_X12_is sl_X12_is lk_X12_109 rfl rfl rfl dX12_pour_56 (Nat.le_of_ble_eq_true rfl) ⟨Nat.le_of_ble_eq_true rfl, Nat.le_of_ble_eq_true rfl⟩ ⟨Nat.le_of_ble_eq_true rfl, Nat.le_of_ble_eq_true rfl⟩ ?_
    obtain ⟨t17, e18, hf0⟩ := ob hf0
    obtain ⟨rfl, e18z⟩ := rZ_k e18
    obtain rfl := so hf0
    exact r_zret C dX12_pour_59 e18z
  have J28 : ∀ (h19 : aH) (t20 : Nat), f_X12_pour_j28 h19 t20 = some out → gW p l e (rmO 1 0 0) s m args below meth c (MQ below (eQ D cA B Hb out.2 (some (.int out.1))) args s 0 0 (fun q => B ≤ q)) D cA B Hb 8 h19 28 [(0, .ref t20)] [] 0 0 := by
    intro h19 t20 hf0
    unfold f_X12_pour_j28 at hf0
    refine r_aload_n C dX12_pour_28 rfl ?_
    refine r_iconst (v := 1) C dX12_pour_29 (by decide) ?_
    obtain ⟨u22, e21, hf0⟩ := ob hf0
    obtain ⟨t23, h24, e25, hf0⟩ := ob2 hf0
    refine r_cV (ci := 12) (rest := []) (st2 := [.int t23]) C (s_X12_is e25) mk_X12_is rfl (ck_k e21) (by decide) im_X12_is sl_X12_is lk_X12_109 rfl rfl rfl dX12_pour_30 (Nat.le_of_ble_eq_true rfl) ⟨Nat.le_of_ble_eq_true rfl, Nat.le_of_ble_eq_true rfl⟩ ⟨Nat.le_of_ble_eq_true rfl, Nat.le_of_ble_eq_true rfl⟩ ?_
    obtain ⟨t26, e27, hf0⟩ := ob hf0
    obtain ⟨rfl, e27z⟩ := rZ_k e27
    obtain rfl := so hf0
    exact r_zret C dX12_pour_33 e27z
  refine r_iload_n C dX12_pour_0 rfl ?_
  obtain ⟨t28, e29, hf0⟩ := ob hf0
  refine r_cS (rest := []) (st2 := [.int t28]) C (s_X12_isTray e29) mk_X12_isTray sm_X12_isTray lk_X12_113 rfl rfl rfl dX12_pour_1 (Nat.le_of_ble_eq_true rfl) ⟨Nat.le_of_ble_eq_true rfl, Nat.le_of_ble_eq_true rfl⟩ ⟨Nat.le_of_ble_eq_true rfl, Nat.le_of_ble_eq_true rfl⟩ ?_
  refine r_ifeq (tgt := 28) C dX12_pour_4 (by decide) (fun c30 => ?_) (fun c30 => ?_)
  · rw [if_pos c30] at hf0
    refine r_subk [0] (lv' := [(0, .ref v0)]) rfl ?_
    exact J28 h v0 hf0
  · rw [if_neg c30] at hf0
    refine r_iload_n C dX12_pour_7 rfl ?_
    obtain ⟨t31, e32, hf0⟩ := ob hf0
    refine r_cS (rest := []) (st2 := [.int t31]) C (s_X12_isTray e32) mk_X12_isTray sm_X12_isTray lk_X12_113 rfl rfl rfl dX12_pour_8 (Nat.le_of_ble_eq_true rfl) ⟨Nat.le_of_ble_eq_true rfl, Nat.le_of_ble_eq_true rfl⟩ ⟨Nat.le_of_ble_eq_true rfl, Nat.le_of_ble_eq_true rfl⟩ ?_
    refine r_ifeq (tgt := 28) C dX12_pour_11 (by decide) (fun c33 => ?_) (fun c33 => ?_)
    · rw [if_pos c33] at hf0
      refine r_subk [0] (lv' := [(0, .ref v0)]) rfl ?_
      exact J28 h v0 hf0
    · rw [if_neg c33] at hf0
      refine r_iload_n C dX12_pour_14 rfl ?_
      refine r_iflt (tgt := 28) C dX12_pour_15 (by decide) (fun c34 => ?_) (fun c34 => ?_)
      · rw [if_pos c34] at hf0
        refine r_subk [0] (lv' := [(0, .ref v0)]) rfl ?_
        exact J28 h v0 hf0
      · rw [if_neg c34] at hf0
        refine r_iload C dX12_pour_18 rfl ?_
        refine r_iflt (tgt := 28) C dX12_pour_20 (by decide) (fun c35 => ?_) (fun c35 => ?_)
        · rw [if_pos c35] at hf0
          refine r_subk [0] (lv' := [(0, .ref v0)]) rfl ?_
          exact J28 h v0 hf0
        · rw [if_neg c35] at hf0
          refine r_iload C dX12_pour_23 rfl ?_
          refine r_ifge (tgt := 34) C dX12_pour_25 (by decide) (fun c36 => ?_) (fun c36 => ?_)
          · rw [if_pos c36] at hf0
            refine r_aload_n C dX12_pour_34 rfl ?_
            obtain ⟨t37, e38, hf0⟩ := ob hf0
            refine r_getR C fk_X12_27 rfl dX12_pour_35 e38 ?_
            refine r_iload_n C dX12_pour_38 rfl ?_
            obtain ⟨t39, e40, hf0⟩ := ob hf0
            refine r_ldI C dX12_pour_39 e40 ?_
            refine r_iconst (v := -1) C dX12_pour_40 (by decide) ?_
            refine r_icmp_eq (tgt := 54) C dX12_pour_41 (by decide) (fun c41 => ?_) (fun c41 => ?_)
            · rw [if_pos c41] at hf0
              refine r_subk [0] (lv' := [(0, .ref v0)]) rfl ?_
              exact J54 h v0 hf0
            · rw [if_neg c41] at hf0
              refine r_aload_n C dX12_pour_44 rfl ?_
              obtain ⟨t42, e43, hf0⟩ := ob hf0
              refine r_getR C fk_X12_27 rfl dX12_pour_45 e43 ?_
              refine r_iload_n C dX12_pour_48 rfl ?_
              obtain ⟨t44, e45, hf0⟩ := ob hf0
              refine r_ldI C dX12_pour_49 e45 ?_
              refine r_iconst (v := -1) C dX12_pour_50 (by decide) ?_
              refine r_icmp_ne (tgt := 60) C dX12_pour_51 (by decide) (fun c46 => ?_) (fun c46 => ?_)
              · rw [if_neg c46] at hf0
                refine r_aload_n C dX12_pour_60 rfl ?_
                obtain ⟨t47, e48, hf0⟩ := ob hf0
                refine r_getR C fk_X12_24 rfl dX12_pour_61 e48 ?_
                refine r_iload_n C dX12_pour_64 rfl ?_
                obtain ⟨t49, e50, hf0⟩ := ob hf0
                refine r_ldI C dX12_pour_65 e50 ?_
                refine r_aload_n C dX12_pour_66 rfl ?_
                obtain ⟨t51, e52, hf0⟩ := ob hf0
                refine r_getR C fk_X12_24 rfl dX12_pour_67 e52 ?_
                refine r_iload_n C dX12_pour_70 rfl ?_
                obtain ⟨t53, e54, hf0⟩ := ob hf0
                refine r_ldI C dX12_pour_71 e54 ?_
                refine r_icmp_eq (tgt := 82) C dX12_pour_72 (by decide) (fun c55 => ?_) (fun c55 => ?_)
                · rw [if_pos c55] at hf0
                  refine r_iload C dX12_pour_82 rfl ?_
                  refine r_aload_n C dX12_pour_84 rfl ?_
                  obtain ⟨t56, e57, hf0⟩ := ob hf0
                  refine r_getR C fk_X12_27 rfl dX12_pour_85 e57 ?_
                  refine r_iload_n C dX12_pour_88 rfl ?_
                  obtain ⟨t58, e59, hf0⟩ := ob hf0
                  refine r_ldI C dX12_pour_89 e59 ?_
                  refine r_iload_n C dX12_pour_90 rfl ?_
                  refine r_isub C dX12_pour_91 ?_
                  refine r_icmp_gt (tgt := 109) C dX12_pour_92 (by decide) (fun c60 => ?_) (fun c60 => ?_)
                  · rw [if_pos c60] at hf0
                    refine r_subk [0] (lv' := [(0, .ref v0)]) rfl ?_
                    exact J109 h v0 hf0
                  · rw [if_neg c60] at hf0
                    refine r_iload C dX12_pour_95 rfl ?_
                    refine r_aload_n C dX12_pour_97 rfl ?_
                    obtain ⟨t61, e62, hf0⟩ := ob hf0
                    refine r_getR C fk_X12_27 rfl dX12_pour_98 e62 ?_
                    refine r_iload_n C dX12_pour_101 rfl ?_
                    obtain ⟨t63, e64, hf0⟩ := ob hf0
                    refine r_ldI C dX12_pour_102 e64 ?_
                    refine r_iload C dX12_pour_103 rfl ?_
                    refine r_isub C dX12_pour_105 ?_
                    refine r_icmp_le (tgt := 115) C dX12_pour_106 (by decide) (fun c65 => ?_) (fun c65 => ?_)
                    · rw [if_pos c65] at hf0
                      refine r_iconst (v := 0) C dX12_pour_115 (by decide) ?_
                      refine r_istore (lv' := [(6, .int (0 : Int32)), (0, .ref v0), (1, .int v1), (2, .int v2), (3, .int v3), (4, .int v4), (5, .int v5)]) C dX12_pour_116 (by decide) rfl rfl ?_
                      obtain ⟨y66, hl118, hf0⟩ := ob hf0
                      have L118 : ∀ (n : Nat) (t67 : Int32) (h68 : aH), whileL n (fun q : Int32 × aH => f_X12_pour_b118 v0 v1 v2 v3 v4 v5 q.1 q.2) (t67, h68) = some y66 → gW p l e (rmO 1 0 0) s m args below meth c (MQ below (eQ D cA B Hb out.2 (some (.int out.1))) args s 0 0 (fun q => B ≤ q)) D cA B Hb 8 h68 118 [(0, .ref v0), (1, .int v1), (2, .int v2), (3, .int v3), (4, .int v4), (5, .int v5), (6, .int t67)] [] 0 0 := by
                        intro n
                        induction n with
                        | zero => intro t67 h68 hz; cases hz
                        | succ n ih118 =>
                          intro t67 h68 hz
                          obtain ⟨x118, hf1, hk118⟩ := wl hz
                          replace hf1 : f_X12_pour_b118 v0 v1 v2 v3 v4 v5 t67 h68 = some x118 := hf1
                          unfold f_X12_pour_b118 at hf1
                          have J143 : ∀ (h69 : aH) (t70 : Int32) (t71 : Int32), f_X12_pour_j143 h69 v0 v1 v2 v3 v4 v5 t70 t71 = some x118 → gW p l e (rmO 1 0 0) s m args below meth c (MQ below (eQ D cA B Hb out.2 (some (.int out.1))) args s 0 0 (fun q => B ≤ q)) D cA B Hb 8 h69 143 [(0, .ref v0), (1, .int v1), (2, .int v2), (3, .int v3), (4, .int v4), (5, .int v5), (6, .int t70)] [.int t71] 0 0 := by
                            intro h69 t70 t71 hf1
                            unfold f_X12_pour_j143 at hf1
                            refine r_istore (lv' := [(7, .int t71), (0, .ref v0), (1, .int v1), (2, .int v2), (3, .int v3), (4, .int v4), (5, .int v5), (6, .int t70)]) C dX12_pour_143 (by decide) rfl rfl ?_
                            refine r_aload_n C dX12_pour_145 rfl ?_
                            obtain ⟨t72, e73, hf1⟩ := ob hf1
                            refine r_getR C fk_X12_30 rfl dX12_pour_146 e73 ?_
                            refine r_bipush (v := 60) C dX12_pour_149 (by decide) ?_
                            refine r_iload_n C dX12_pour_151 rfl ?_
                            refine r_imul C dX12_pour_152 ?_
                            refine r_iload C dX12_pour_153 rfl ?_
                            refine r_iadd C dX12_pour_155 ?_
                            refine r_iload C dX12_pour_156 rfl ?_
                            refine r_iadd C dX12_pour_158 ?_
                            refine r_aload_n C dX12_pour_159 rfl ?_
                            obtain ⟨t74, e75, hf1⟩ := ob hf1
                            refine r_getR C fk_X12_30 rfl dX12_pour_160 e75 ?_
                            refine r_bipush (v := 60) C dX12_pour_163 (by decide) ?_
                            refine r_iload_n C dX12_pour_165 rfl ?_
                            refine r_imul C dX12_pour_166 ?_
                            refine r_iload_n C dX12_pour_167 rfl ?_
                            refine r_iadd C dX12_pour_168 ?_
                            refine r_iload C dX12_pour_169 rfl ?_
                            refine r_iadd C dX12_pour_171 ?_
                            obtain ⟨t76, e77, hf1⟩ := ob hf1
                            refine r_ldJ C dX12_pour_172 e77 ?_
                            obtain ⟨h78, e79, hf1⟩ := ob hf1
                            refine r_stJ C dX12_pour_173 e79 ?_
                            obtain ⟨t80, e81, hf1⟩ := ob hf1
                            refine r_iinc (lv' := [(6, .int t80), (7, .int t71), (0, .ref v0), (1, .int v1), (2, .int v2), (3, .int v3), (4, .int v4), (5, .int v5)]) C dX12_pour_174 rfl e81 (by decide) rfl ?_
                            refine r_goto (tgt := 118) C dX12_pour_177 (by decide) ?_
                            obtain rfl := so hf1
                            refine r_subk [2, 3, 4, 5, 6, 7, 0] (lv' := [(0, .ref v0), (1, .int v1), (2, .int v2), (3, .int v3), (4, .int v4), (5, .int v5), (6, .int t80)]) rfl ?_
                            exact ih118 t80 h78 hk118
                          refine r_iload C dX12_pour_118 rfl ?_
                          refine r_iload C dX12_pour_120 rfl ?_
                          refine r_icmp_ge (tgt := 180) C dX12_pour_122 (by decide) (fun c82 => ?_) (fun c82 => ?_)
                          · rw [if_pos c82] at hf1
                            obtain rfl := so hf1
                            obtain rfl := so (show some h68 = some y66 from hk118)
                            refine r_aload_n C dX12_pour_180 rfl ?_
                            refine r_iconst (v := 0) C dX12_pour_181 (by decide) ?_
                            obtain ⟨u84, e83, hf0⟩ := ob hf0
                            obtain ⟨t85, h86, e87, hf0⟩ := ob2 hf0
                            refine r_cV (ci := 12) (rest := []) (st2 := [.int t85]) C (s_X12_is e87) mk_X12_is rfl (ck_k e83) (by decide) im_X12_is sl_X12_is lk_X12_109 rfl rfl rfl dX12_pour_182 (Nat.le_of_ble_eq_true rfl) ⟨Nat.le_of_ble_eq_true rfl, Nat.le_of_ble_eq_true rfl⟩ ⟨Nat.le_of_ble_eq_true rfl, Nat.le_of_ble_eq_true rfl⟩ ?_
                            obtain ⟨t88, e89, hf0⟩ := ob hf0
                            obtain ⟨rfl, e89z⟩ := rZ_k e89
                            obtain rfl := so hf0
                            exact r_zret C dX12_pour_185 e89z
                          · rw [if_neg c82] at hf1
                            refine r_iload_n C dX12_pour_125 rfl ?_
                            refine r_iload C dX12_pour_126 rfl ?_
                            refine r_icmp_ge (tgt := 141) C dX12_pour_128 (by decide) (fun c90 => ?_) (fun c90 => ?_)
                            · rw [if_pos c90] at hf1
                              refine r_iload C dX12_pour_141 rfl ?_
                              exact J143 h68 t67 t67 hf1
                            · rw [if_neg c90] at hf1
                              refine r_iload C dX12_pour_131 rfl ?_
                              refine r_iconst (v := 1) C dX12_pour_133 (by decide) ?_
                              refine r_isub C dX12_pour_134 ?_
                              refine r_iload C dX12_pour_135 rfl ?_
                              refine r_isub C dX12_pour_137 ?_
                              refine r_goto (tgt := 143) C dX12_pour_138 (by decide) ?_
                              exact J143 h68 t67 ((v5 - (1 : Int32)) - t67) hf1
                      refine r_subk [1, 2, 3, 4, 5, 6, 0] (lv' := [(0, .ref v0), (1, .int v1), (2, .int v2), (3, .int v3), (4, .int v4), (5, .int v5), (6, .int (0 : Int32))]) rfl ?_
                      exact L118 wN (0 : Int32) h hl118
                    · rw [if_neg c65] at hf0
                      refine r_subk [0] (lv' := [(0, .ref v0)]) rfl ?_
                      exact J109 h v0 hf0
                · rw [if_neg c55] at hf0
                  refine r_aload_n C dX12_pour_75 rfl ?_
                  refine r_bipush (v := 8) C dX12_pour_76 (by decide) ?_
                  obtain ⟨u92, e91, hf0⟩ := ob hf0
                  obtain ⟨t93, h94, e95, hf0⟩ := ob2 hf0
                  refine r_cV (ci := 12) (rest := []) (st2 := [.int t93]) C (s_X12_is e95) mk_X12_is rfl (ck_k e91) (by decide) im_X12_is sl_X12_is lk_X12_109 rfl rfl rfl dX12_pour_78 (Nat.le_of_ble_eq_true rfl) ⟨Nat.le_of_ble_eq_true rfl, Nat.le_of_ble_eq_true rfl⟩ ⟨Nat.le_of_ble_eq_true rfl, Nat.le_of_ble_eq_true rfl⟩ ?_
                  obtain ⟨t96, e97, hf0⟩ := ob hf0
                  obtain ⟨rfl, e97z⟩ := rZ_k e97
                  obtain rfl := so hf0
                  exact r_zret C dX12_pour_81 e97z
              · rw [if_pos c46] at hf0
                refine r_subk [0] (lv' := [(0, .ref v0)]) rfl ?_
                exact J54 h v0 hf0
          · rw [if_neg c36] at hf0
            refine r_subk [0] (lv' := [(0, .ref v0)]) rfl ?_
            exact J28 h v0 hf0
def f_X12_isFrom (h : aH) (v0 : Int64) (v2 : Int64) (v4 : Int64) : Option (Int32) := if (lg_cmp v0 v2) < 0 then some (0 : Int32) else if 0 < (lg_cmp v0 v4) then some (0 : Int32) else some (1 : Int32)
theorem s_X12_isFrom {h : aH} {v0 : Int64} {v2 : Int64} {v4 : Int64} {out : Int32} (hf0 : f_X12_isFrom h v0 v2 v4 = some out) : EV 0 yX12_isFrom cX12_isFrom 6 (some .boolean) h [.long v0, .long v2, .long v4] (some (.int out)) h 0 0 := by
  refine EV.of (own := RX12) (lv0 := [(0, .long v0), (2, .long v2), (4, .long v4)]) (by decide +kernel) rfl rfl (Nat.le_of_ble_eq_true rfl) ?_
  intro p l e s m args below meth c D cA B Hb C hin
  unfold f_X12_isFrom at hf0
  refine r_lload_n C dX12_isFrom_0 rfl ?_
  refine r_lload_n C dX12_isFrom_1 rfl ?_
  refine r_lcmp C dX12_isFrom_2 ?_
  refine r_iflt (tgt := 17) C dX12_isFrom_3 (by decide) (fun c1 => ?_) (fun c1 => ?_)
  · rw [if_pos c1] at hf0
    refine r_iconst (v := 0) C dX12_isFrom_17 (by decide) ?_
    obtain rfl := so hf0
    exact r_zret C dX12_isFrom_18 (Or.inl rfl)
  · rw [if_neg c1] at hf0
    refine r_lload_n C dX12_isFrom_6 rfl ?_
    refine r_lload C dX12_isFrom_7 rfl ?_
    refine r_lcmp C dX12_isFrom_9 ?_
    refine r_ifgt (tgt := 17) C dX12_isFrom_10 (by decide) (fun c2 => ?_) (fun c2 => ?_)
    · rw [if_pos c2] at hf0
      refine r_iconst (v := 0) C dX12_isFrom_17 (by decide) ?_
      obtain rfl := so hf0
      exact r_zret C dX12_isFrom_18 (Or.inl rfl)
    · rw [if_neg c2] at hf0
      refine r_iconst (v := 1) C dX12_isFrom_13 (by decide) ?_
      refine r_goto (tgt := 18) C dX12_isFrom_14 (by decide) ?_
      obtain rfl := so hf0
      exact r_zret C dX12_isFrom_18 (Or.inr rfl)
def f_X12_four_b3 (v0 : Nat) (v1 : Int32) (v2 : Int32) (h : aH) : Option ((Int32 × aH) ⊕ (aH)) := if v2 < 0 then some (.inr h) else (gR h 12 v0 9).bind fun t1 => (gI h 12 v0 11).bind fun t2 => (sB h t1 t2 ((Int32.toInt8 (v1 >>> (v2 &&& 31))).toInt32)).bind fun h3 => (gI h3 12 v0 11).bind fun t4 => (pI h3 12 v0 11 (t4 + (1 : Int32))).bind fun h5 => (some (v2 + (-8 : Int32))).bind fun t6 => some (.inl (t6, h5))
def f_X12_four_l3 (v0 : Nat) (v1 : Int32) (v2 : Int32) (h : aH) : Option (aH) := whileL wN (fun q : Int32 × aH => f_X12_four_b3 v0 v1 q.1 q.2) (v2, h)
def f_X12_four (h : aH) (v0 : Nat) (v1 : Int32) : Option (aH) := (f_X12_four_l3 v0 v1 (24 : Int32) h).bind fun h7 => some h7
theorem s_X12_four {h : aH} {v0 : Nat} {v1 : Int32} {out : aH} (hf0 : f_X12_four h v0 v1 = some out) : EV 0 yX12_four cX12_four 3 none h [.ref v0, .int v1] none out 0 0 := by
  refine EV.of (own := RX12) (lv0 := [(0, .ref v0), (1, .int v1)]) (by decide +kernel) rfl rfl (Nat.le_of_ble_eq_true rfl) ?_
  intro p l e s m args below meth c D cA B Hb C hin
  unfold f_X12_four at hf0
  refine r_bipush (v := 24) C dX12_four_0 (by decide) ?_
  refine r_istore_n (lv' := [(2, .int (24 : Int32)), (0, .ref v0), (1, .int v1)]) C dX12_four_2 (by decide) rfl rfl ?_
  obtain ⟨y1, hl3, hf0⟩ := ob hf0
  have L3 : ∀ (n : Nat) (t2 : Int32) (h3 : aH), whileL n (fun q : Int32 × aH => f_X12_four_b3 v0 v1 q.1 q.2) (t2, h3) = some y1 → gW p l e (rmO 0 0 0) s m args below meth c (MQ below (eQ D cA B Hb out none) args s 0 0 (fun q => B ≤ q)) D cA B Hb 3 h3 3 [(0, .ref v0), (1, .int v1), (2, .int t2)] [] 0 0 := by
    intro n
    induction n with
    | zero => intro t2 h3 hz; cases hz
    | succ n ih3 =>
      intro t2 h3 hz
      obtain ⟨x3, hf1, hk3⟩ := wl hz
      replace hf1 : f_X12_four_b3 v0 v1 t2 h3 = some x3 := hf1
      unfold f_X12_four_b3 at hf1
      refine r_iload_n C dX12_four_3 rfl ?_
      refine r_iflt (tgt := 36) C dX12_four_4 (by decide) (fun c4 => ?_) (fun c4 => ?_)
      · rw [if_pos c4] at hf1
        obtain rfl := so hf1
        obtain rfl := so (show some h3 = some y1 from hk3)
        obtain rfl := so hf0
        exact r_vret C dX12_four_36
      · rw [if_neg c4] at hf1
        refine r_aload_n C dX12_four_7 rfl ?_
        obtain ⟨t5, e6, hf1⟩ := ob hf1
        refine r_getR C fk_X12_33 rfl dX12_four_8 e6 ?_
        refine r_aload_n C dX12_four_11 rfl ?_
        obtain ⟨t7, e8, hf1⟩ := ob hf1
        refine r_getI C fk_X12_126 rfl dX12_four_12 e8 ?_
        refine r_iload_n C dX12_four_15 rfl ?_
        refine r_iload_n C dX12_four_16 rfl ?_
        refine r_ishr C dX12_four_17 ?_
        refine r_i2b C dX12_four_18 ?_
        obtain ⟨h9, e10, hf1⟩ := ob hf1
        refine r_stB C dX12_four_19 e10 ?_
        refine r_aload_n C dX12_four_20 rfl ?_
        refine r_dup C dX12_four_21 rfl ?_
        obtain ⟨t11, e12, hf1⟩ := ob hf1
        refine r_getI C fk_X12_126 rfl dX12_four_22 e12 ?_
        refine r_iconst (v := 1) C dX12_four_25 (by decide) ?_
        refine r_iadd C dX12_four_26 ?_
        obtain ⟨h13, e14, hf1⟩ := ob hf1
        refine r_putI C fk_X12_126 dX12_four_27 e14 ?_
        obtain ⟨t15, e16, hf1⟩ := ob hf1
        refine r_iinc (lv' := [(2, .int t15), (0, .ref v0), (1, .int v1)]) C dX12_four_30 rfl e16 (by decide) rfl ?_
        refine r_goto (tgt := 3) C dX12_four_33 (by decide) ?_
        obtain rfl := so hf1
        refine r_subk [1, 2, 0] (lv' := [(0, .ref v0), (1, .int v1), (2, .int t15)]) rfl ?_
        exact ih3 t15 h13 hk3
  refine r_subk [1, 2, 0] (lv' := [(0, .ref v0), (1, .int v1), (2, .int (24 : Int32))]) rfl ?_
  exact L3 wN (24 : Int32) h hl3
def f_X12_feed (h : aH) (v0 : Nat) (v1 : Int32) (v2 : Int32) (v3 : Int32) (v4 : Int32) (v5 : Int32) : Option (Int32 × aH) := (gI h 12 v0 11).bind fun t1 => if (t1 + (20 : Int32)) ≤ (900 : Int32) then (ck h 12 v0).bind fun _ => (f_X12_four h v0 v1).bind fun h2 => (ck h2 12 v0).bind fun _ => (f_X12_four h2 v0 v2).bind fun h3 => (ck h3 12 v0).bind fun _ => (f_X12_four h3 v0 v3).bind fun h4 => (ck h4 12 v0).bind fun _ => (f_X12_four h4 v0 v4).bind fun h5 => (ck h5 12 v0).bind fun _ => (f_X12_four h5 v0 v5).bind fun h6 => (gI h6 12 v0 11).bind fun t7 => some (t7, h6) else some ((-1 : Int32), h)
theorem s_X12_feed {h : aH} {v0 : Nat} {v1 : Int32} {v2 : Int32} {v3 : Int32} {v4 : Int32} {v5 : Int32} {out : Int32 × aH} (hf0 : f_X12_feed h v0 v1 v2 v3 v4 v5 = some out) : EV 1 yX12_feed cX12_feed 6 (some .int) h [.ref v0, .int v1, .int v2, .int v3, .int v4, .int v5] (some (.int out.1)) out.2 0 0 := by
  refine EV.of (own := RX12) (lv0 := [(0, .ref v0), (1, .int v1), (2, .int v2), (3, .int v3), (4, .int v4), (5, .int v5)]) (by decide +kernel) rfl rfl (Nat.le_of_ble_eq_true rfl) ?_
  intro p l e s m args below meth c D cA B Hb C hin
  unfold f_X12_feed at hf0
  refine r_aload_n C dX12_feed_0 rfl ?_
  obtain ⟨t1, e2, hf0⟩ := ob hf0
  refine r_getI C fk_X12_126 rfl dX12_feed_1 e2 ?_
  refine r_bipush (v := 20) C dX12_feed_4 (by decide) ?_
  refine r_iadd C dX12_feed_6 ?_
  refine r_sipush (v := 900) C dX12_feed_7 (by decide) ?_
  refine r_icmp_le (tgt := 15) C dX12_feed_10 (by decide) (fun c3 => ?_) (fun c3 => ?_)
  · rw [if_pos c3] at hf0
    refine r_aload_n C dX12_feed_15 rfl ?_
    refine r_iload_n C dX12_feed_16 rfl ?_
    obtain ⟨u5, e4, hf0⟩ := ob hf0
    obtain ⟨h6, e7, hf0⟩ := ob hf0
    refine r_cV (ci := 12) (rest := []) (st2 := []) C (s_X12_four e7) mk_X12_four rfl (ck_k e4) (by decide) im_X12_four sl_X12_four lk_X12_129 rfl rfl rfl dX12_feed_17 (Nat.le_of_ble_eq_true rfl) ⟨Nat.le_of_ble_eq_true rfl, Nat.le_of_ble_eq_true rfl⟩ ⟨Nat.le_of_ble_eq_true rfl, Nat.le_of_ble_eq_true rfl⟩ ?_
    refine r_aload_n C dX12_feed_20 rfl ?_
    refine r_iload_n C dX12_feed_21 rfl ?_
    obtain ⟨u9, e8, hf0⟩ := ob hf0
    obtain ⟨h10, e11, hf0⟩ := ob hf0
    refine r_cV (ci := 12) (rest := []) (st2 := []) C (s_X12_four e11) mk_X12_four rfl (ck_k e8) (by decide) im_X12_four sl_X12_four lk_X12_129 rfl rfl rfl dX12_feed_22 (Nat.le_of_ble_eq_true rfl) ⟨Nat.le_of_ble_eq_true rfl, Nat.le_of_ble_eq_true rfl⟩ ⟨Nat.le_of_ble_eq_true rfl, Nat.le_of_ble_eq_true rfl⟩ ?_
    refine r_aload_n C dX12_feed_25 rfl ?_
    refine r_iload_n C dX12_feed_26 rfl ?_
    obtain ⟨u13, e12, hf0⟩ := ob hf0
    obtain ⟨h14, e15, hf0⟩ := ob hf0
    refine r_cV (ci := 12) (rest := []) (st2 := []) C (s_X12_four e15) mk_X12_four rfl (ck_k e12) (by decide) im_X12_four sl_X12_four lk_X12_129 rfl rfl rfl dX12_feed_27 (Nat.le_of_ble_eq_true rfl) ⟨Nat.le_of_ble_eq_true rfl, Nat.le_of_ble_eq_true rfl⟩ ⟨Nat.le_of_ble_eq_true rfl, Nat.le_of_ble_eq_true rfl⟩ ?_
    refine r_aload_n C dX12_feed_30 rfl ?_
    refine r_iload C dX12_feed_31 rfl ?_
    obtain ⟨u17, e16, hf0⟩ := ob hf0
    obtain ⟨h18, e19, hf0⟩ := ob hf0
    refine r_cV (ci := 12) (rest := []) (st2 := []) C (s_X12_four e19) mk_X12_four rfl (ck_k e16) (by decide) im_X12_four sl_X12_four lk_X12_129 rfl rfl rfl dX12_feed_33 (Nat.le_of_ble_eq_true rfl) ⟨Nat.le_of_ble_eq_true rfl, Nat.le_of_ble_eq_true rfl⟩ ⟨Nat.le_of_ble_eq_true rfl, Nat.le_of_ble_eq_true rfl⟩ ?_
    refine r_aload_n C dX12_feed_36 rfl ?_
    refine r_iload C dX12_feed_37 rfl ?_
    obtain ⟨u21, e20, hf0⟩ := ob hf0
    obtain ⟨h22, e23, hf0⟩ := ob hf0
    refine r_cV (ci := 12) (rest := []) (st2 := []) C (s_X12_four e23) mk_X12_four rfl (ck_k e20) (by decide) im_X12_four sl_X12_four lk_X12_129 rfl rfl rfl dX12_feed_39 (Nat.le_of_ble_eq_true rfl) ⟨Nat.le_of_ble_eq_true rfl, Nat.le_of_ble_eq_true rfl⟩ ⟨Nat.le_of_ble_eq_true rfl, Nat.le_of_ble_eq_true rfl⟩ ?_
    refine r_aload_n C dX12_feed_42 rfl ?_
    obtain ⟨t24, e25, hf0⟩ := ob hf0
    refine r_getI C fk_X12_126 rfl dX12_feed_43 e25 ?_
    obtain rfl := so hf0
    exact r_iret C dX12_feed_46
  · rw [if_neg c3] at hf0
    refine r_iconst (v := -1) C dX12_feed_13 (by decide) ?_
    obtain rfl := so hf0
    exact r_iret C dX12_feed_14
def f_X12_byteAt (h : aH) (v0 : Nat) (v1 : Int32) : Option (Int32) := (gI h 12 v0 12).bind fun t1 => if t1 ≤ v1 then some (-1 : Int32) else (gR h 12 v0 10).bind fun t2 => (lB h t2 v1).bind fun t3 => some (t3 &&& (255 : Int32))
theorem s_X12_byteAt {h : aH} {v0 : Nat} {v1 : Int32} {out : Int32} (hf0 : f_X12_byteAt h v0 v1 = some out) : EV 0 yX12_byteAt cX12_byteAt 2 (some .int) h [.ref v0, .int v1] (some (.int out)) h 0 0 := by
  refine EV.of (own := RX12) (lv0 := [(0, .ref v0), (1, .int v1)]) (by decide +kernel) rfl rfl (Nat.le_of_ble_eq_true rfl) ?_
  intro p l e s m args below meth c D cA B Hb C hin
  unfold f_X12_byteAt at hf0
  refine r_iload_n C dX12_byteAt_0 rfl ?_
  refine r_aload_n C dX12_byteAt_1 rfl ?_
  obtain ⟨t1, e2, hf0⟩ := ob hf0
  refine r_getI C fk_X12_133 rfl dX12_byteAt_2 e2 ?_
  refine r_icmp_ge (tgt := 21) C dX12_byteAt_5 (by decide) (fun c3 => ?_) (fun c3 => ?_)
  · rw [if_pos c3] at hf0
    refine r_iconst (v := -1) C dX12_byteAt_21 (by decide) ?_
    obtain rfl := so hf0
    exact r_iret C dX12_byteAt_22
  · rw [if_neg c3] at hf0
    refine r_aload_n C dX12_byteAt_8 rfl ?_
    obtain ⟨t4, e5, hf0⟩ := ob hf0
    refine r_getR C fk_X12_37 rfl dX12_byteAt_9 e5 ?_
    refine r_iload_n C dX12_byteAt_12 rfl ?_
    obtain ⟨t6, e7, hf0⟩ := ob hf0
    refine r_ldB C dX12_byteAt_13 e7 ?_
    refine r_sipush (v := 255) C dX12_byteAt_14 (by decide) ?_
    refine r_iand C dX12_byteAt_17 ?_
    refine r_goto (tgt := 22) C dX12_byteAt_18 (by decide) ?_
    obtain rfl := so hf0
    exact r_iret C dX12_byteAt_22
def f_X12_isSmall (h : aH) (v0 : Int32) : Option (Int32) := if v0 < (97 : Int32) then some (0 : Int32) else if (122 : Int32) < v0 then some (0 : Int32) else some (1 : Int32)
theorem s_X12_isSmall {h : aH} {v0 : Int32} {out : Int32} (hf0 : f_X12_isSmall h v0 = some out) : EV 0 yX12_isSmall cX12_isSmall 1 (some .boolean) h [.int v0] (some (.int out)) h 0 0 := by
  refine EV.of (own := RX12) (lv0 := [(0, .int v0)]) (by decide +kernel) rfl rfl (Nat.le_of_ble_eq_true rfl) ?_
  intro p l e s m args below meth c D cA B Hb C hin
  unfold f_X12_isSmall at hf0
  refine r_iload_n C dX12_isSmall_0 rfl ?_
  refine r_bipush (v := 97) C dX12_isSmall_1 (by decide) ?_
  refine r_icmp_lt (tgt := 16) C dX12_isSmall_3 (by decide) (fun c1 => ?_) (fun c1 => ?_)
  · rw [if_pos c1] at hf0
    refine r_iconst (v := 0) C dX12_isSmall_16 (by decide) ?_
    obtain rfl := so hf0
    exact r_zret C dX12_isSmall_17 (Or.inl rfl)
  · rw [if_neg c1] at hf0
    refine r_iload_n C dX12_isSmall_6 rfl ?_
    refine r_bipush (v := 122) C dX12_isSmall_7 (by decide) ?_
    refine r_icmp_gt (tgt := 16) C dX12_isSmall_9 (by decide) (fun c2 => ?_) (fun c2 => ?_)
    · rw [if_pos c2] at hf0
      refine r_iconst (v := 0) C dX12_isSmall_16 (by decide) ?_
      obtain rfl := so hf0
      exact r_zret C dX12_isSmall_17 (Or.inl rfl)
    · rw [if_neg c2] at hf0
      refine r_iconst (v := 1) C dX12_isSmall_12 (by decide) ?_
      refine r_goto (tgt := 17) C dX12_isSmall_13 (by decide) ?_
      obtain rfl := so hf0
      exact r_zret C dX12_isSmall_17 (Or.inr rfl)
def f_X12_isDigit (h : aH) (v0 : Int32) : Option (Int32) := if v0 < (48 : Int32) then some (0 : Int32) else if (57 : Int32) < v0 then some (0 : Int32) else some (1 : Int32)
theorem s_X12_isDigit {h : aH} {v0 : Int32} {out : Int32} (hf0 : f_X12_isDigit h v0 = some out) : EV 0 yX12_isDigit cX12_isDigit 1 (some .boolean) h [.int v0] (some (.int out)) h 0 0 := by
  refine EV.of (own := RX12) (lv0 := [(0, .int v0)]) (by decide +kernel) rfl rfl (Nat.le_of_ble_eq_true rfl) ?_
  intro p l e s m args below meth c D cA B Hb C hin
  unfold f_X12_isDigit at hf0
  refine r_iload_n C dX12_isDigit_0 rfl ?_
  refine r_bipush (v := 48) C dX12_isDigit_1 (by decide) ?_
  refine r_icmp_lt (tgt := 16) C dX12_isDigit_3 (by decide) (fun c1 => ?_) (fun c1 => ?_)
  · rw [if_pos c1] at hf0
    refine r_iconst (v := 0) C dX12_isDigit_16 (by decide) ?_
    obtain rfl := so hf0
    exact r_zret C dX12_isDigit_17 (Or.inl rfl)
  · rw [if_neg c1] at hf0
    refine r_iload_n C dX12_isDigit_6 rfl ?_
    refine r_bipush (v := 57) C dX12_isDigit_7 (by decide) ?_
    refine r_icmp_gt (tgt := 16) C dX12_isDigit_9 (by decide) (fun c2 => ?_) (fun c2 => ?_)
    · rw [if_pos c2] at hf0
      refine r_iconst (v := 0) C dX12_isDigit_16 (by decide) ?_
      obtain rfl := so hf0
      exact r_zret C dX12_isDigit_17 (Or.inl rfl)
    · rw [if_neg c2] at hf0
      refine r_iconst (v := 1) C dX12_isDigit_12 (by decide) ?_
      refine r_goto (tgt := 17) C dX12_isDigit_13 (by decide) ?_
      obtain rfl := so hf0
      exact r_zret C dX12_isDigit_17 (Or.inr rfl)
def f_X12_ahead_j26 (h : aH) (v0 : Nat) : Option ((aH) ⊕ (aH)) := (gI h 12 v0 15).bind fun t1 => (pI h 12 v0 15 (t1 + (1 : Int32))).bind fun h2 => some (.inl h2)
def f_X12_ahead_b0 (v0 : Nat) (h : aH) : Option ((aH) ⊕ (aH)) := (gI h 12 v0 15).bind fun t3 => (ck h 12 v0).bind fun _ => (f_X12_byteAt h v0 t3).bind fun t4 => if t4 = (32 : Int32) then f_X12_ahead_j26 h v0 else (gI h 12 v0 15).bind fun t5 => (ck h 12 v0).bind fun _ => (f_X12_byteAt h v0 t5).bind fun t6 => if t6 = (10 : Int32) then f_X12_ahead_j26 h v0 else some (.inr h)
def f_X12_ahead_l0 (v0 : Nat) (h : aH) : Option (aH) := whileL wN (fun q : aH => f_X12_ahead_b0 v0 q) h
def f_X12_ahead_b128 (v0 : Nat) (h : aH) : Option ((aH) ⊕ (aH)) := (gI h 12 v0 15).bind fun t22 => (ck h 12 v0).bind fun _ => (f_X12_byteAt h v0 t22).bind fun t23 => (f_X12_isDigit h t23).bind fun t24 => if t24 = 0 then some (.inr h) else (gI h 12 v0 16).bind fun t25 => (gI h 12 v0 15).bind fun t26 => (ck h 12 v0).bind fun _ => (f_X12_byteAt h v0 t26).bind fun t27 => (pI h 12 v0 16 (mnI (100000 : Int32) ((((10 : Int32) * t25) + t27) - (48 : Int32)))).bind fun h28 => (gI h28 12 v0 15).bind fun t29 => (pI h28 12 v0 15 (t29 + (1 : Int32))).bind fun h30 => some (.inl h30)
def f_X12_ahead_l128 (v0 : Nat) (h : aH) : Option (aH) := whileL wN (fun q : aH => f_X12_ahead_b128 v0 q) h
def f_X12_ahead_b81 (v0 : Nat) (h : aH) : Option ((aH) ⊕ (aH)) := (gI h 12 v0 15).bind fun t36 => (ck h 12 v0).bind fun _ => (f_X12_byteAt h v0 t36).bind fun t37 => (f_X12_isSmall h t37).bind fun t38 => if t38 = 0 then some (.inr h) else (gI h 12 v0 15).bind fun t39 => (pI h 12 v0 15 (t39 + (1 : Int32))).bind fun h40 => some (.inl h40)
def f_X12_ahead_l81 (v0 : Nat) (h : aH) : Option (aH) := whileL wN (fun q : aH => f_X12_ahead_b81 v0 q) h
def f_X12_ahead (h : aH) (v0 : Nat) : Option (aH) := (f_X12_ahead_l0 v0 h).bind fun h7 => (gI h7 12 v0 15).bind fun t8 => (pI h7 12 v0 14 t8).bind fun h9 => (gI h9 12 v0 15).bind fun t10 => (ck h9 12 v0).bind fun _ => (f_X12_byteAt h9 v0 t10).bind fun t11 => (pI h9 12 v0 16 t11).bind fun h12 => if t11 = (-1 : Int32) then (pI h12 12 v0 13 (0 : Int32)).bind fun h43 => some h43 else (f_X12_isSmall h12 t11).bind fun t13 => if t13 = 0 then (f_X12_isDigit h12 t11).bind fun t14 => if t14 = 0 then (gI h12 12 v0 15).bind fun t15 => (pI h12 12 v0 15 (t15 + (1 : Int32))).bind fun h16 => if t11 = (59 : Int32) then (pI h16 12 v0 13 (4 : Int32)).bind fun h17 => some h17 else if t11 = (40 : Int32) then (pI h16 12 v0 13 (4 : Int32)).bind fun h18 => some h18 else if t11 = (41 : Int32) then (pI h16 12 v0 13 (4 : Int32)).bind fun h20 => some h20 else (pI h16 12 v0 13 (1 : Int32)).bind fun h19 => some h19 else (pI h12 12 v0 16 (0 : Int32)).bind fun h21 => (f_X12_ahead_l128 v0 h21).bind fun h31 => (gI h31 12 v0 15).bind fun t32 => (gI h31 12 v0 14).bind fun t33 => if (t32 - t33) ≤ (4 : Int32) then (pI h31 12 v0 13 (3 : Int32)).bind fun h34 => some h34 else (pI h31 12 v0 13 (1 : Int32)).bind fun h35 => some h35 else (f_X12_ahead_l81 v0 h12).bind fun h41 => (pI h41 12 v0 13 (2 : Int32)).bind fun h42 => some h42
theorem s_X12_ahead {h : aH} {v0 : Nat} {out : aH} (hf0 : f_X12_ahead h v0 = some out) : EV 1 yX12_ahead cX12_ahead 2 none h [.ref v0] none out 0 0 := by
  refine EV.of (own := RX12) (lv0 := [(0, .ref v0)]) (by decide +kernel) rfl rfl (Nat.le_of_ble_eq_true rfl) ?_
  intro p l e s m args below meth c D cA B Hb C hin
  unfold f_X12_ahead at hf0
  obtain ⟨y1, hl0, hf0⟩ := ob hf0
  have L0 : ∀ (n : Nat) (h2 : aH), whileL n (fun q : aH => f_X12_ahead_b0 v0 q) h2 = some y1 → gW p l e (rmO 1 0 0) s m args below meth c (MQ below (eQ D cA B Hb out none) args s 0 0 (fun q => B ≤ q)) D cA B Hb 2 h2 0 [(0, .ref v0)] [] 0 0 := by
    intro n
    induction n with
    | zero => intro h2 hz; cases hz
    | succ n ih0 =>
      intro h2 hz
      obtain ⟨x0, hf1, hk0⟩ := wl hz
      replace hf1 : f_X12_ahead_b0 v0 h2 = some x0 := hf1
      unfold f_X12_ahead_b0 at hf1
      have J26 : ∀ (h3 : aH), f_X12_ahead_j26 h3 v0 = some x0 → gW p l e (rmO 1 0 0) s m args below meth c (MQ below (eQ D cA B Hb out none) args s 0 0 (fun q => B ≤ q)) D cA B Hb 2 h3 26 [(0, .ref v0)] [] 0 0 := by
        intro h3 hf1
        unfold f_X12_ahead_j26 at hf1
        refine r_aload_n C dX12_ahead_26 rfl ?_
        refine r_dup C dX12_ahead_27 rfl ?_
        obtain ⟨t4, e5, hf1⟩ := ob hf1
        refine r_getI C fk_X12_136 rfl dX12_ahead_28 e5 ?_
        refine r_iconst (v := 1) C dX12_ahead_31 (by decide) ?_
        refine r_iadd C dX12_ahead_32 ?_
        obtain ⟨h6, e7, hf1⟩ := ob hf1
        refine r_putI C fk_X12_136 dX12_ahead_33 e7 ?_
        refine r_goto (tgt := 0) C dX12_ahead_36 (by decide) ?_
        obtain rfl := so hf1
        exact ih0 h6 hk0
      refine r_aload_n C dX12_ahead_0 rfl ?_
      refine r_aload_n C dX12_ahead_1 rfl ?_
      obtain ⟨t8, e9, hf1⟩ := ob hf1
      refine r_getI C fk_X12_136 rfl dX12_ahead_2 e9 ?_
      obtain ⟨u11, e10, hf1⟩ := ob hf1
      obtain ⟨t12, e13, hf1⟩ := ob hf1
      refine r_cV (ci := 12) (rest := []) (st2 := [.int t12]) C (s_X12_byteAt e13) mk_X12_byteAt rfl (ck_k e10) (by decide) im_X12_byteAt sl_X12_byteAt lk_X12_139 rfl rfl rfl dX12_ahead_5 (Nat.le_of_ble_eq_true rfl) ⟨Nat.le_of_ble_eq_true rfl, Nat.le_of_ble_eq_true rfl⟩ ⟨Nat.le_of_ble_eq_true rfl, Nat.le_of_ble_eq_true rfl⟩ ?_
      refine r_bipush (v := 32) C dX12_ahead_8 (by decide) ?_
      refine r_icmp_eq (tgt := 26) C dX12_ahead_10 (by decide) (fun c14 => ?_) (fun c14 => ?_)
      · rw [if_pos c14] at hf1
        exact J26 h2 hf1
      · rw [if_neg c14] at hf1
        refine r_aload_n C dX12_ahead_13 rfl ?_
        refine r_aload_n C dX12_ahead_14 rfl ?_
        obtain ⟨t15, e16, hf1⟩ := ob hf1
        refine r_getI C fk_X12_136 rfl dX12_ahead_15 e16 ?_
        obtain ⟨u18, e17, hf1⟩ := ob hf1
        obtain ⟨t19, e20, hf1⟩ := ob hf1
        refine r_cV (ci := 12) (rest := []) (st2 := [.int t19]) C (s_X12_byteAt e20) mk_X12_byteAt rfl (ck_k e17) (by decide) im_X12_byteAt sl_X12_byteAt lk_X12_139 rfl rfl rfl dX12_ahead_18 (Nat.le_of_ble_eq_true rfl) ⟨Nat.le_of_ble_eq_true rfl, Nat.le_of_ble_eq_true rfl⟩ ⟨Nat.le_of_ble_eq_true rfl, Nat.le_of_ble_eq_true rfl⟩ ?_
        refine r_bipush (v := 10) C dX12_ahead_21 (by decide) ?_
        refine r_icmp_ne (tgt := 39) C dX12_ahead_23 (by decide) (fun c21 => ?_) (fun c21 => ?_)
        · rw [if_neg c21] at hf1
          obtain rfl := so hf1
          obtain rfl := so (show some h2 = some y1 from hk0)
          refine r_aload_n C dX12_ahead_39 rfl ?_
          refine r_aload_n C dX12_ahead_40 rfl ?_
          obtain ⟨t22, e23, hf0⟩ := ob hf0
          refine r_getI C fk_X12_136 rfl dX12_ahead_41 e23 ?_
          obtain ⟨h24, e25, hf0⟩ := ob hf0
          refine r_putI C fk_X12_143 dX12_ahead_44 e25 ?_
          refine r_aload_n C dX12_ahead_47 rfl ?_
          refine r_aload_n C dX12_ahead_48 rfl ?_
          obtain ⟨t26, e27, hf0⟩ := ob hf0
          refine r_getI C fk_X12_136 rfl dX12_ahead_49 e27 ?_
          obtain ⟨u29, e28, hf0⟩ := ob hf0
          obtain ⟨t30, e31, hf0⟩ := ob hf0
          refine r_cV (ci := 12) (rest := []) (st2 := [.int t30]) C (s_X12_byteAt e31) mk_X12_byteAt rfl (ck_k e28) (by decide) im_X12_byteAt sl_X12_byteAt lk_X12_139 rfl rfl rfl dX12_ahead_52 (Nat.le_of_ble_eq_true rfl) ⟨Nat.le_of_ble_eq_true rfl, Nat.le_of_ble_eq_true rfl⟩ ⟨Nat.le_of_ble_eq_true rfl, Nat.le_of_ble_eq_true rfl⟩ ?_
          refine r_istore_n (lv' := [(1, .int t30), (0, .ref v0)]) C dX12_ahead_55 (by decide) rfl rfl ?_
          refine r_aload_n C dX12_ahead_56 rfl ?_
          refine r_iload_n C dX12_ahead_57 rfl ?_
          obtain ⟨h32, e33, hf0⟩ := ob hf0
          refine r_putI C fk_X12_146 dX12_ahead_58 e33 ?_
          refine r_iload_n C dX12_ahead_61 rfl ?_
          refine r_iconst (v := -1) C dX12_ahead_62 (by decide) ?_
          refine r_icmp_ne (tgt := 74) C dX12_ahead_63 (by decide) (fun c34 => ?_) (fun c34 => ?_)
          · rw [if_neg c34] at hf0
            refine r_iload_n C dX12_ahead_74 rfl ?_
            obtain ⟨t35, e36, hf0⟩ := ob hf0
            refine r_cS (rest := []) (st2 := [.int t35]) C (s_X12_isSmall e36) mk_X12_isSmall sm_X12_isSmall lk_X12_152 rfl rfl rfl dX12_ahead_75 (Nat.le_of_ble_eq_true rfl) ⟨Nat.le_of_ble_eq_true rfl, Nat.le_of_ble_eq_true rfl⟩ ⟨Nat.le_of_ble_eq_true rfl, Nat.le_of_ble_eq_true rfl⟩ ?_
            refine r_ifeq (tgt := 116) C dX12_ahead_78 (by decide) (fun c37 => ?_) (fun c37 => ?_)
            · rw [if_pos c37] at hf0
              refine r_iload_n C dX12_ahead_116 rfl ?_
              obtain ⟨t38, e39, hf0⟩ := ob hf0
              refine r_cS (rest := []) (st2 := [.int t38]) C (s_X12_isDigit e39) mk_X12_isDigit sm_X12_isDigit lk_X12_155 rfl rfl rfl dX12_ahead_117 (Nat.le_of_ble_eq_true rfl) ⟨Nat.le_of_ble_eq_true rfl, Nat.le_of_ble_eq_true rfl⟩ ⟨Nat.le_of_ble_eq_true rfl, Nat.le_of_ble_eq_true rfl⟩ ?_
              refine r_ifeq (tgt := 208) C dX12_ahead_120 (by decide) (fun c40 => ?_) (fun c40 => ?_)
              · rw [if_pos c40] at hf0
                refine r_aload_n C dX12_ahead_208 rfl ?_
                refine r_dup C dX12_ahead_209 rfl ?_
                obtain ⟨t41, e42, hf0⟩ := ob hf0
                refine r_getI C fk_X12_136 rfl dX12_ahead_210 e42 ?_
                refine r_iconst (v := 1) C dX12_ahead_213 (by decide) ?_
                refine r_iadd C dX12_ahead_214 ?_
                obtain ⟨h43, e44, hf0⟩ := ob hf0
                refine r_putI C fk_X12_136 dX12_ahead_215 e44 ?_
                refine r_aload_n C dX12_ahead_218 rfl ?_
                refine r_iload_n C dX12_ahead_219 rfl ?_
                refine r_bipush (v := 59) C dX12_ahead_220 (by decide) ?_
                refine r_icmp_eq (tgt := 237) C dX12_ahead_222 (by decide) (fun c45 => ?_) (fun c45 => ?_)
                · rw [if_pos c45] at hf0
                  refine r_iconst (v := 4) C dX12_ahead_237 (by decide) ?_
                  refine r_goto (tgt := 242) C dX12_ahead_238 (by decide) ?_
                  obtain ⟨h46, e47, hf0⟩ := ob hf0
                  refine r_putI C fk_X12_149 dX12_ahead_242 e47 ?_
                  obtain rfl := so hf0
                  exact r_vret C dX12_ahead_245
                · rw [if_neg c45] at hf0
                  refine r_iload_n C dX12_ahead_225 rfl ?_
                  refine r_bipush (v := 40) C dX12_ahead_226 (by decide) ?_
                  refine r_icmp_eq (tgt := 237) C dX12_ahead_228 (by decide) (fun c48 => ?_) (fun c48 => ?_)
                  · rw [if_pos c48] at hf0
                    refine r_iconst (v := 4) C dX12_ahead_237 (by decide) ?_
                    refine r_goto (tgt := 242) C dX12_ahead_238 (by decide) ?_
                    obtain ⟨h49, e50, hf0⟩ := ob hf0
                    refine r_putI C fk_X12_149 dX12_ahead_242 e50 ?_
                    obtain rfl := so hf0
                    exact r_vret C dX12_ahead_245
                  · rw [if_neg c48] at hf0
                    refine r_iload_n C dX12_ahead_231 rfl ?_
                    refine r_bipush (v := 41) C dX12_ahead_232 (by decide) ?_
                    refine r_icmp_ne (tgt := 241) C dX12_ahead_234 (by decide) (fun c51 => ?_) (fun c51 => ?_)
                    · rw [if_neg c51] at hf0
                      refine r_iconst (v := 1) C dX12_ahead_241 (by decide) ?_
                      obtain ⟨h52, e53, hf0⟩ := ob hf0
                      refine r_putI C fk_X12_149 dX12_ahead_242 e53 ?_
                      obtain rfl := so hf0
                      exact r_vret C dX12_ahead_245
                    · rw [if_pos c51] at hf0
                      refine r_iconst (v := 4) C dX12_ahead_237 (by decide) ?_
                      refine r_goto (tgt := 242) C dX12_ahead_238 (by decide) ?_
                      obtain ⟨h54, e55, hf0⟩ := ob hf0
                      refine r_putI C fk_X12_149 dX12_ahead_242 e55 ?_
                      obtain rfl := so hf0
                      exact r_vret C dX12_ahead_245
              · rw [if_neg c40] at hf0
                refine r_aload_n C dX12_ahead_123 rfl ?_
                refine r_iconst (v := 0) C dX12_ahead_124 (by decide) ?_
                obtain ⟨h56, e57, hf0⟩ := ob hf0
                refine r_putI C fk_X12_146 dX12_ahead_125 e57 ?_
                obtain ⟨y58, hl128, hf0⟩ := ob hf0
                have L128 : ∀ (n : Nat) (h59 : aH), whileL n (fun q : aH => f_X12_ahead_b128 v0 q) h59 = some y58 → gW p l e (rmO 1 0 0) s m args below meth c (MQ below (eQ D cA B Hb out none) args s 0 0 (fun q => B ≤ q)) D cA B Hb 2 h59 128 [(0, .ref v0)] [] 0 0 := by
                  intro n
                  induction n with
                  | zero => intro h59 hz; cases hz
                  | succ n ih128 =>
                    intro h59 hz
                    obtain ⟨x128, hf1, hk128⟩ := wl hz
                    replace hf1 : f_X12_ahead_b128 v0 h59 = some x128 := hf1
                    unfold f_X12_ahead_b128 at hf1
                    refine r_aload_n C dX12_ahead_128 rfl ?_
                    refine r_aload_n C dX12_ahead_129 rfl ?_
                    obtain ⟨t60, e61, hf1⟩ := ob hf1
                    refine r_getI C fk_X12_136 rfl dX12_ahead_130 e61 ?_
                    obtain ⟨u63, e62, hf1⟩ := ob hf1
                    obtain ⟨t64, e65, hf1⟩ := ob hf1
                    refine r_cV (ci := 12) (rest := []) (st2 := [.int t64]) C (s_X12_byteAt e65) mk_X12_byteAt rfl (ck_k e62) (by decide) im_X12_byteAt sl_X12_byteAt lk_X12_139 rfl rfl rfl dX12_ahead_133 (Nat.le_of_ble_eq_true rfl) ⟨Nat.le_of_ble_eq_true rfl, Nat.le_of_ble_eq_true rfl⟩ ⟨Nat.le_of_ble_eq_true rfl, Nat.le_of_ble_eq_true rfl⟩ ?_
                    obtain ⟨t66, e67, hf1⟩ := ob hf1
                    refine r_cS (rest := []) (st2 := [.int t66]) C (s_X12_isDigit e67) mk_X12_isDigit sm_X12_isDigit lk_X12_155 rfl rfl rfl dX12_ahead_136 (Nat.le_of_ble_eq_true rfl) ⟨Nat.le_of_ble_eq_true rfl, Nat.le_of_ble_eq_true rfl⟩ ⟨Nat.le_of_ble_eq_true rfl, Nat.le_of_ble_eq_true rfl⟩ ?_
                    refine r_ifeq (tgt := 183) C dX12_ahead_139 (by decide) (fun c68 => ?_) (fun c68 => ?_)
                    · rw [if_pos c68] at hf1
                      obtain rfl := so hf1
                      obtain rfl := so (show some h59 = some y58 from hk128)
                      refine r_aload_n C dX12_ahead_183 rfl ?_
                      refine r_aload_n C dX12_ahead_184 rfl ?_
                      obtain ⟨t69, e70, hf0⟩ := ob hf0
                      refine r_getI C fk_X12_136 rfl dX12_ahead_185 e70 ?_
                      refine r_aload_n C dX12_ahead_188 rfl ?_
                      obtain ⟨t71, e72, hf0⟩ := ob hf0
                      refine r_getI C fk_X12_143 rfl dX12_ahead_189 e72 ?_
                      refine r_isub C dX12_ahead_192 ?_
                      refine r_iconst (v := 4) C dX12_ahead_193 (by decide) ?_
                      refine r_icmp_le (tgt := 201) C dX12_ahead_194 (by decide) (fun c73 => ?_) (fun c73 => ?_)
                      · rw [if_pos c73] at hf0
                        refine r_iconst (v := 3) C dX12_ahead_201 (by decide) ?_
                        obtain ⟨h74, e75, hf0⟩ := ob hf0
                        refine r_putI C fk_X12_149 dX12_ahead_202 e75 ?_
                        refine r_goto (tgt := 245) C dX12_ahead_205 (by decide) ?_
                        obtain rfl := so hf0
                        exact r_vret C dX12_ahead_245
                      · rw [if_neg c73] at hf0
                        refine r_iconst (v := 1) C dX12_ahead_197 (by decide) ?_
                        refine r_goto (tgt := 202) C dX12_ahead_198 (by decide) ?_
                        obtain ⟨h76, e77, hf0⟩ := ob hf0
                        refine r_putI C fk_X12_149 dX12_ahead_202 e77 ?_
                        refine r_goto (tgt := 245) C dX12_ahead_205 (by decide) ?_
                        obtain rfl := so hf0
                        exact r_vret C dX12_ahead_245
                    · rw [if_neg c68] at hf1
                      refine r_aload_n C dX12_ahead_142 rfl ?_
                      refine r_ldc (v := 100000) C dX12_ahead_143 cn_X12_158 ?_
                      refine r_bipush (v := 10) C dX12_ahead_145 (by decide) ?_
                      refine r_aload_n C dX12_ahead_147 rfl ?_
                      obtain ⟨t78, e79, hf1⟩ := ob hf1
                      refine r_getI C fk_X12_146 rfl dX12_ahead_148 e79 ?_
                      refine r_imul C dX12_ahead_151 ?_
                      refine r_aload_n C dX12_ahead_152 rfl ?_
                      refine r_aload_n C dX12_ahead_153 rfl ?_
                      obtain ⟨t80, e81, hf1⟩ := ob hf1
                      refine r_getI C fk_X12_136 rfl dX12_ahead_154 e81 ?_
                      obtain ⟨u83, e82, hf1⟩ := ob hf1
                      obtain ⟨t84, e85, hf1⟩ := ob hf1
                      refine r_cV (ci := 12) (rest := [.int ((10 : Int32) * t78), .int (100000 : Int32), .ref v0]) (st2 := [.int t84, .int ((10 : Int32) * t78), .int (100000 : Int32), .ref v0]) C (s_X12_byteAt e85) mk_X12_byteAt rfl (ck_k e82) (by decide) im_X12_byteAt sl_X12_byteAt lk_X12_139 rfl rfl rfl dX12_ahead_157 (Nat.le_of_ble_eq_true rfl) ⟨Nat.le_of_ble_eq_true rfl, Nat.le_of_ble_eq_true rfl⟩ ⟨Nat.le_of_ble_eq_true rfl, Nat.le_of_ble_eq_true rfl⟩ ?_
                      refine r_iadd C dX12_ahead_160 ?_
                      refine r_bipush (v := 48) C dX12_ahead_161 (by decide) ?_
                      refine r_isub C dX12_ahead_163 ?_
                      refine r_mmin C lk_X12_159 dX12_ahead_164 ⟨Nat.le_of_ble_eq_true rfl, Nat.le_of_ble_eq_true rfl⟩ (Nat.le_of_ble_eq_true rfl) ⟨Nat.le_of_ble_eq_true rfl, Nat.le_of_ble_eq_true rfl⟩ ?_
                      obtain ⟨h86, e87, hf1⟩ := ob hf1
                      refine r_putI C fk_X12_146 dX12_ahead_167 e87 ?_
                      refine r_aload_n C dX12_ahead_170 rfl ?_
                      refine r_dup C dX12_ahead_171 rfl ?_
                      obtain ⟨t88, e89, hf1⟩ := ob hf1
                      refine r_getI C fk_X12_136 rfl dX12_ahead_172 e89 ?_
                      refine r_iconst (v := 1) C dX12_ahead_175 (by decide) ?_
                      refine r_iadd C dX12_ahead_176 ?_
                      obtain ⟨h90, e91, hf1⟩ := ob hf1
                      refine r_putI C fk_X12_136 dX12_ahead_177 e91 ?_
                      refine r_goto (tgt := 128) C dX12_ahead_180 (by decide) ?_
                      obtain rfl := so hf1
                      exact ih128 h90 hk128
                refine r_subk [1] (lv' := [(0, .ref v0)]) rfl ?_
                exact L128 wN h56 hl128
            · rw [if_neg c37] at hf0
              obtain ⟨y92, hl81, hf0⟩ := ob hf0
              have L81 : ∀ (n : Nat) (h93 : aH), whileL n (fun q : aH => f_X12_ahead_b81 v0 q) h93 = some y92 → gW p l e (rmO 1 0 0) s m args below meth c (MQ below (eQ D cA B Hb out none) args s 0 0 (fun q => B ≤ q)) D cA B Hb 2 h93 81 [(0, .ref v0)] [] 0 0 := by
                intro n
                induction n with
                | zero => intro h93 hz; cases hz
                | succ n ih81 =>
                  intro h93 hz
                  obtain ⟨x81, hf1, hk81⟩ := wl hz
                  replace hf1 : f_X12_ahead_b81 v0 h93 = some x81 := hf1
                  unfold f_X12_ahead_b81 at hf1
                  refine r_aload_n C dX12_ahead_81 rfl ?_
                  refine r_aload_n C dX12_ahead_82 rfl ?_
                  obtain ⟨t94, e95, hf1⟩ := ob hf1
                  refine r_getI C fk_X12_136 rfl dX12_ahead_83 e95 ?_
                  obtain ⟨u97, e96, hf1⟩ := ob hf1
                  obtain ⟨t98, e99, hf1⟩ := ob hf1
                  refine r_cV (ci := 12) (rest := []) (st2 := [.int t98]) C (s_X12_byteAt e99) mk_X12_byteAt rfl (ck_k e96) (by decide) im_X12_byteAt sl_X12_byteAt lk_X12_139 rfl rfl rfl dX12_ahead_86 (Nat.le_of_ble_eq_true rfl) ⟨Nat.le_of_ble_eq_true rfl, Nat.le_of_ble_eq_true rfl⟩ ⟨Nat.le_of_ble_eq_true rfl, Nat.le_of_ble_eq_true rfl⟩ ?_
                  obtain ⟨t100, e101, hf1⟩ := ob hf1
                  refine r_cS (rest := []) (st2 := [.int t100]) C (s_X12_isSmall e101) mk_X12_isSmall sm_X12_isSmall lk_X12_152 rfl rfl rfl dX12_ahead_89 (Nat.le_of_ble_eq_true rfl) ⟨Nat.le_of_ble_eq_true rfl, Nat.le_of_ble_eq_true rfl⟩ ⟨Nat.le_of_ble_eq_true rfl, Nat.le_of_ble_eq_true rfl⟩ ?_
                  refine r_ifeq (tgt := 108) C dX12_ahead_92 (by decide) (fun c102 => ?_) (fun c102 => ?_)
                  · rw [if_pos c102] at hf1
                    obtain rfl := so hf1
                    obtain rfl := so (show some h93 = some y92 from hk81)
                    refine r_aload_n C dX12_ahead_108 rfl ?_
                    refine r_iconst (v := 2) C dX12_ahead_109 (by decide) ?_
                    obtain ⟨h103, e104, hf0⟩ := ob hf0
                    refine r_putI C fk_X12_149 dX12_ahead_110 e104 ?_
                    refine r_goto (tgt := 245) C dX12_ahead_113 (by decide) ?_
                    obtain rfl := so hf0
                    exact r_vret C dX12_ahead_245
                  · rw [if_neg c102] at hf1
                    refine r_aload_n C dX12_ahead_95 rfl ?_
                    refine r_dup C dX12_ahead_96 rfl ?_
                    obtain ⟨t105, e106, hf1⟩ := ob hf1
                    refine r_getI C fk_X12_136 rfl dX12_ahead_97 e106 ?_
                    refine r_iconst (v := 1) C dX12_ahead_100 (by decide) ?_
                    refine r_iadd C dX12_ahead_101 ?_
                    obtain ⟨h107, e108, hf1⟩ := ob hf1
                    refine r_putI C fk_X12_136 dX12_ahead_102 e108 ?_
                    refine r_goto (tgt := 81) C dX12_ahead_105 (by decide) ?_
                    obtain rfl := so hf1
                    exact ih81 h107 hk81
              refine r_subk [1] (lv' := [(0, .ref v0)]) rfl ?_
              exact L81 wN h32 hl81
          · rw [if_pos c34] at hf0
            refine r_aload_n C dX12_ahead_66 rfl ?_
            refine r_iconst (v := 0) C dX12_ahead_67 (by decide) ?_
            obtain ⟨h109, e110, hf0⟩ := ob hf0
            refine r_putI C fk_X12_149 dX12_ahead_68 e110 ?_
            refine r_goto (tgt := 245) C dX12_ahead_71 (by decide) ?_
            obtain rfl := so hf0
            exact r_vret C dX12_ahead_245
        · rw [if_pos c21] at hf1
          exact J26 h2 hf1
  exact L0 wN h hl0
def f_X12_isSign (h : aH) (v0 : Nat) (v1 : Int32) : Option (Int32) := (gI h 12 v0 13).bind fun t1 => if t1 = (4 : Int32) then (gI h 12 v0 16).bind fun t2 => if t2 = v1 then some (1 : Int32) else some (0 : Int32) else some (0 : Int32)
theorem s_X12_isSign {h : aH} {v0 : Nat} {v1 : Int32} {out : Int32} (hf0 : f_X12_isSign h v0 v1 = some out) : EV 0 yX12_isSign cX12_isSign 2 (some .boolean) h [.ref v0, .int v1] (some (.int out)) h 0 0 := by
  refine EV.of (own := RX12) (lv0 := [(0, .ref v0), (1, .int v1)]) (by decide +kernel) rfl rfl (Nat.le_of_ble_eq_true rfl) ?_
  intro p l e s m args below meth c D cA B Hb C hin
  unfold f_X12_isSign at hf0
  refine r_aload_n C dX12_isSign_0 rfl ?_
  obtain ⟨t1, e2, hf0⟩ := ob hf0
  refine r_getI C fk_X12_149 rfl dX12_isSign_1 e2 ?_
  refine r_iconst (v := 4) C dX12_isSign_4 (by decide) ?_
  refine r_icmp_ne (tgt := 20) C dX12_isSign_5 (by decide) (fun c3 => ?_) (fun c3 => ?_)
  · rw [if_neg c3] at hf0
    refine r_iconst (v := 0) C dX12_isSign_20 (by decide) ?_
    obtain rfl := so hf0
    exact r_zret C dX12_isSign_21 (Or.inl rfl)
  · rw [if_pos c3] at hf0
    refine r_aload_n C dX12_isSign_8 rfl ?_
    obtain ⟨t4, e5, hf0⟩ := ob hf0
    refine r_getI C fk_X12_146 rfl dX12_isSign_9 e5 ?_
    refine r_iload_n C dX12_isSign_12 rfl ?_
    refine r_icmp_ne (tgt := 20) C dX12_isSign_13 (by decide) (fun c6 => ?_) (fun c6 => ?_)
    · rw [if_neg c6] at hf0
      refine r_iconst (v := 0) C dX12_isSign_20 (by decide) ?_
      obtain rfl := so hf0
      exact r_zret C dX12_isSign_21 (Or.inl rfl)
    · rw [if_pos c6] at hf0
      refine r_iconst (v := 1) C dX12_isSign_16 (by decide) ?_
      refine r_goto (tgt := 21) C dX12_isSign_17 (by decide) ?_
      obtain rfl := so hf0
      exact r_zret C dX12_isSign_21 (Or.inr rfl)
def f_X12_inWords_j115 (h : aH) (v0 : Nat) (v1 : Nat) (v2 : Int32) (v4 : Int32) (v5 : Int32) : Option ((Int32 × Int32) ⊕ ((Int32) ⊕ (Unit))) := if v5 = 0 then (some (v2 + (1 : Int32))).bind fun t2 => (some (v4 + (1 : Int32))).bind fun t3 => some (.inl (t2, t3)) else some (.inr (.inl v2))
def f_X12_inWords_j107 (h : aH) (v0 : Nat) (v1 : Nat) (v2 : Int32) (v3 : Int32) (v4 : Int32) (v6 : Int32) (s0 : Int32) : Option ((Int32 × Int32) ⊕ (Int32)) := (some (v6 + (1 : Int32))).bind fun t4 => some (.inl (s0, t4))
def f_X12_inWords_b68 (h : aH) (v0 : Nat) (v1 : Nat) (v2 : Int32) (v3 : Int32) (v4 : Int32) (v5 : Int32) (v6 : Int32) : Option ((Int32 × Int32) ⊕ (Int32)) := if v4 ≤ v6 then some (.inr v5) else if v5 = 0 then some (.inr v5) else (scC v1 v6).bind fun t5 => (gI h 12 v0 14).bind fun t6 => (ck h 12 v0).bind fun _ => (f_X12_byteAt h v0 ((t6 + v6) - v3)).bind fun t7 => if t5 = t7 then f_X12_inWords_j107 h v0 v1 v2 v3 v4 v6 (1 : Int32) else f_X12_inWords_j107 h v0 v1 v2 v3 v4 v6 (0 : Int32)
def f_X12_inWords_l68 (h : aH) (v0 : Nat) (v1 : Nat) (v2 : Int32) (v3 : Int32) (v4 : Int32) (v5 : Int32) (v6 : Int32) : Option (Int32) := whileL wN (fun q : Int32 × Int32 => f_X12_inWords_b68 h v0 v1 v2 v3 v4 q.1 q.2) (v5, v6)
def f_X12_inWords_j63 (h : aH) (v0 : Nat) (v1 : Nat) (v2 : Int32) (v3 : Int32) (v4 : Int32) (s0 : Int32) : Option ((Int32 × Int32) ⊕ ((Int32) ⊕ (Unit))) := (f_X12_inWords_l68 h v0 v1 v2 v3 v4 s0 v3).bind fun t8 => f_X12_inWords_j115 h v0 v1 v2 v4 t8
def f_X12_inWords_b25 (h : aH) (v0 : Nat) (v1 : Nat) (v2 : Int32) (v3 : Int32) (v4 : Int32) : Option ((Int32) ⊕ (Int32)) := (scC v1 v4).bind fun t10 => if t10 = (32 : Int32) then some (.inr v4) else (some (v4 + (1 : Int32))).bind fun t11 => some (.inl t11)
def f_X12_inWords_l25 (h : aH) (v0 : Nat) (v1 : Nat) (v2 : Int32) (v3 : Int32) (v4 : Int32) : Option (Int32) := whileL wN (fun q : Int32 => f_X12_inWords_b25 h v0 v1 v2 v3 q) v4
def f_X12_inWords_b14 (h : aH) (v0 : Nat) (v1 : Nat) (v2 : Int32) (v3 : Int32) : Option ((Int32 × Int32) ⊕ ((Int32) ⊕ (Unit))) := (scN v1).bind fun t9 => if t9 ≤ v3 then some (.inr (.inr ())) else (f_X12_inWords_l25 h v0 v1 v2 v3 v3).bind fun t12 => (gI h 12 v0 15).bind fun t13 => (gI h 12 v0 14).bind fun t14 => if (t12 - v3) = (t13 - t14) then f_X12_inWords_j63 h v0 v1 v2 v3 t12 (1 : Int32) else f_X12_inWords_j63 h v0 v1 v2 v3 t12 (0 : Int32)
def f_X12_inWords_l14 (h : aH) (v0 : Nat) (v1 : Nat) (v2 : Int32) (v3 : Int32) : Option ((Int32) ⊕ (Unit)) := whileL wN (fun q : Int32 × Int32 => f_X12_inWords_b14 h v0 v1 q.1 q.2) (v2, v3)
def f_X12_inWords (h : aH) (v0 : Nat) (v1 : Nat) : Option (Int32) := (gI h 12 v0 13).bind fun t1 => if t1 = (2 : Int32) then (f_X12_inWords_l14 h v0 v1 (0 : Int32) (1 : Int32)).bind fun e => match e with | .inl t15 => some t15 | .inr _ => some (-1 : Int32) else some (-1 : Int32)
theorem s_X12_inWords {h : aH} {v0 : Nat} {v1 : Nat} {out : Int32} (hf0 : f_X12_inWords h v0 v1 = some out) : EV 8 yX12_inWords cX12_inWords 7 (some .int) h [.ref v0, .retAddr v1] (some (.int out)) h 0 0 := by
  refine EV.of (own := RX12) (lv0 := [(0, .ref v0), (1, .retAddr v1)]) (by decide +kernel) rfl rfl (Nat.le_of_ble_eq_true rfl) ?_
  intro p l e s m args below meth c D cA B Hb C hin
  unfold f_X12_inWords at hf0
  refine r_aload_n C dX12_inWords_0 rfl ?_
  obtain ⟨t1, e2, hf0⟩ := ob hf0
  refine r_getI C fk_X12_149 rfl dX12_inWords_1 e2 ?_
  refine r_iconst (v := 2) C dX12_inWords_4 (by decide) ?_
  refine r_icmp_eq (tgt := 10) C dX12_inWords_5 (by decide) (fun c3 => ?_) (fun c3 => ?_)
  · rw [if_pos c3] at hf0
    refine r_iconst (v := 0) C dX12_inWords_10 (by decide) ?_
    refine r_istore_n (lv' := [(2, .int (0 : Int32)), (0, .ref v0), (1, .retAddr v1)]) C dX12_inWords_11 (by decide) rfl rfl ?_
    refine r_iconst (v := 1) C dX12_inWords_12 (by decide) ?_
    refine r_istore_n (lv' := [(3, .int (1 : Int32)), (2, .int (0 : Int32)), (0, .ref v0), (1, .retAddr v1)]) C dX12_inWords_13 (by decide) rfl rfl ?_
    obtain ⟨y4, hl14, hf0⟩ := ob hf0
    have L14 : ∀ (n : Nat) (t5 : Int32) (t6 : Int32), whileL n (fun q : Int32 × Int32 => f_X12_inWords_b14 h v0 v1 q.1 q.2) (t5, t6) = some y4 → gW p l e (rmO 8 0 0) s m args below meth c (MQ below (eQ D cA B Hb h (some (.int out))) args s 0 0 (fun q => B ≤ q)) D cA B Hb 7 h 14 [(0, .ref v0), (1, .retAddr v1), (2, .int t5), (3, .int t6)] [] 0 0 := by
      intro n
      induction n with
      | zero => intro t5 t6 hz; cases hz
      | succ n ih14 =>
        intro t5 t6 hz
        obtain ⟨x14, hf1, hk14⟩ := wl hz
        replace hf1 : f_X12_inWords_b14 h v0 v1 t5 t6 = some x14 := hf1
        unfold f_X12_inWords_b14 at hf1
        have J115 : ∀ (t7 : Int32) (t8 : Int32) (t9 : Int32), f_X12_inWords_j115 h v0 v1 t7 t8 t9 = some x14 → gW p l e (rmO 8 0 0) s m args below meth c (MQ below (eQ D cA B Hb h (some (.int out))) args s 0 0 (fun q => B ≤ q)) D cA B Hb 7 h 115 [(0, .ref v0), (1, .retAddr v1), (2, .int t7), (4, .int t8), (5, .int t9)] [] 0 0 := by
          intro t7 t8 t9 hf1
          unfold f_X12_inWords_j115 at hf1
          refine r_iload C dX12_inWords_115 rfl ?_
          refine r_ifeq (tgt := 122) C dX12_inWords_117 (by decide) (fun c10 => ?_) (fun c10 => ?_)
          · rw [if_pos c10] at hf1
            obtain ⟨t11, e12, hf1⟩ := ob hf1
            refine r_iinc (lv' := [(2, .int t11), (0, .ref v0), (1, .retAddr v1), (4, .int t8), (5, .int t9)]) C dX12_inWords_122 rfl e12 (by decide) rfl ?_
            refine r_iload C dX12_inWords_125 rfl ?_
            refine r_iconst (v := 1) C dX12_inWords_127 (by decide) ?_
            refine r_iadd C dX12_inWords_128 ?_
            obtain ⟨t13, e14, hf1⟩ := ob hf1
            refine r_istore_n (lv' := [(3, .int t13), (2, .int t11), (0, .ref v0), (1, .retAddr v1), (4, .int t8), (5, .int t9)]) C dX12_inWords_129 (by decide) e14 rfl ?_
            refine r_goto (tgt := 14) C dX12_inWords_130 (by decide) ?_
            obtain rfl := so hf1
            refine r_subk [2, 3, 1, 0] (lv' := [(0, .ref v0), (1, .retAddr v1), (2, .int t11), (3, .int t13)]) rfl ?_
            exact ih14 t11 t13 hk14
          · rw [if_neg c10] at hf1
            obtain rfl := so hf1
            obtain rfl := so (show some (.inl t7 : (Int32) ⊕ (Unit)) = some y4 from hk14)
            dsimp only at hf0
            refine r_iload_n C dX12_inWords_120 rfl ?_
            obtain rfl := so hf0
            exact r_iret C dX12_inWords_121
        have J63 : ∀ (t15 : Int32) (t16 : Int32) (t17 : Int32) (t18 : Int32), f_X12_inWords_j63 h v0 v1 t15 t16 t17 t18 = some x14 → gW p l e (rmO 8 0 0) s m args below meth c (MQ below (eQ D cA B Hb h (some (.int out))) args s 0 0 (fun q => B ≤ q)) D cA B Hb 7 h 63 [(0, .ref v0), (1, .retAddr v1), (2, .int t15), (3, .int t16), (4, .int t17)] [.int t18] 0 0 := by
          intro t15 t16 t17 t18 hf1
          unfold f_X12_inWords_j63 at hf1
          refine r_istore (lv' := [(5, .int t18), (0, .ref v0), (1, .retAddr v1), (2, .int t15), (3, .int t16), (4, .int t17)]) C dX12_inWords_63 (by decide) rfl rfl ?_
          refine r_iload_n C dX12_inWords_65 rfl ?_
          refine r_istore (lv' := [(6, .int t16), (5, .int t18), (0, .ref v0), (1, .retAddr v1), (2, .int t15), (3, .int t16), (4, .int t17)]) C dX12_inWords_66 (by decide) rfl rfl ?_
          obtain ⟨y19, hl68, hf1⟩ := ob hf1
          have L68 : ∀ (n : Nat) (t20 : Int32) (t21 : Int32), whileL n (fun q : Int32 × Int32 => f_X12_inWords_b68 h v0 v1 t15 t16 t17 q.1 q.2) (t20, t21) = some y19 → gW p l e (rmO 8 0 0) s m args below meth c (MQ below (eQ D cA B Hb h (some (.int out))) args s 0 0 (fun q => B ≤ q)) D cA B Hb 7 h 68 [(0, .ref v0), (1, .retAddr v1), (2, .int t15), (3, .int t16), (4, .int t17), (5, .int t20), (6, .int t21)] [] 0 0 := by
            intro n
            induction n with
            | zero => intro t20 t21 hz; cases hz
            | succ n ih68 =>
              intro t20 t21 hz
              obtain ⟨x68, hf2, hk68⟩ := wl hz
              replace hf2 : f_X12_inWords_b68 h v0 v1 t15 t16 t17 t20 t21 = some x68 := hf2
              unfold f_X12_inWords_b68 at hf2
              have J107 : ∀ (t22 : Int32) (t23 : Int32), f_X12_inWords_j107 h v0 v1 t15 t16 t17 t22 t23 = some x68 → gW p l e (rmO 8 0 0) s m args below meth c (MQ below (eQ D cA B Hb h (some (.int out))) args s 0 0 (fun q => B ≤ q)) D cA B Hb 7 h 107 [(0, .ref v0), (1, .retAddr v1), (2, .int t15), (3, .int t16), (4, .int t17), (6, .int t22)] [.int t23] 0 0 := by
                intro t22 t23 hf2
                unfold f_X12_inWords_j107 at hf2
                refine r_istore (lv' := [(5, .int t23), (0, .ref v0), (1, .retAddr v1), (2, .int t15), (3, .int t16), (4, .int t17), (6, .int t22)]) C dX12_inWords_107 (by decide) rfl rfl ?_
                obtain ⟨t24, e25, hf2⟩ := ob hf2
                refine r_iinc (lv' := [(6, .int t24), (5, .int t23), (0, .ref v0), (1, .retAddr v1), (2, .int t15), (3, .int t16), (4, .int t17)]) C dX12_inWords_109 rfl e25 (by decide) rfl ?_
                refine r_goto (tgt := 68) C dX12_inWords_112 (by decide) ?_
                obtain rfl := so hf2
                refine r_subk [2, 3, 4, 5, 6, 1, 0] (lv' := [(0, .ref v0), (1, .retAddr v1), (2, .int t15), (3, .int t16), (4, .int t17), (5, .int t23), (6, .int t24)]) rfl ?_
                exact ih68 t23 t24 hk68
              refine r_iload C dX12_inWords_68 rfl ?_
              refine r_iload C dX12_inWords_70 rfl ?_
              refine r_icmp_ge (tgt := 115) C dX12_inWords_72 (by decide) (fun c26 => ?_) (fun c26 => ?_)
              · rw [if_pos c26] at hf2
                obtain rfl := so hf2
                obtain rfl := so (show some t20 = some y19 from hk68)
                refine r_subk [0, 1, 2, 4, 5] (lv' := [(0, .ref v0), (1, .retAddr v1), (2, .int t15), (4, .int t17), (5, .int t20)]) rfl ?_
                exact J115 t15 t17 t20 hf1
              · rw [if_neg c26] at hf2
                refine r_iload C dX12_inWords_75 rfl ?_
                refine r_ifeq (tgt := 115) C dX12_inWords_77 (by decide) (fun c27 => ?_) (fun c27 => ?_)
                · rw [if_pos c27] at hf2
                  obtain rfl := so hf2
                  obtain rfl := so (show some t20 = some y19 from hk68)
                  refine r_subk [0, 1, 2, 4, 5] (lv' := [(0, .ref v0), (1, .retAddr v1), (2, .int t15), (4, .int t17), (5, .int t20)]) rfl ?_
                  exact J115 t15 t17 t20 hf1
                · rw [if_neg c27] at hf2
                  refine r_sload_n C dX12_inWords_80 rfl ?_
                  refine r_iload C dX12_inWords_81 rfl ?_
                  obtain ⟨t28, e29, hf2⟩ := ob hf2
                  refine r_schr C lk_X12_170 dX12_inWords_83 (Nat.le_of_ble_eq_true rfl) ⟨Nat.le_of_ble_eq_true rfl, Nat.le_of_ble_eq_true rfl⟩ ⟨Nat.le_of_ble_eq_true rfl, Nat.le_of_ble_eq_true rfl⟩ e29 ?_
                  refine r_aload_n C dX12_inWords_86 rfl ?_
                  refine r_aload_n C dX12_inWords_87 rfl ?_
                  obtain ⟨t30, e31, hf2⟩ := ob hf2
                  refine r_getI C fk_X12_143 rfl dX12_inWords_88 e31 ?_
                  refine r_iload C dX12_inWords_91 rfl ?_
                  refine r_iadd C dX12_inWords_93 ?_
                  refine r_iload_n C dX12_inWords_94 rfl ?_
                  refine r_isub C dX12_inWords_95 ?_
                  obtain ⟨u33, e32, hf2⟩ := ob hf2
                  obtain ⟨t34, e35, hf2⟩ := ob hf2
                  refine r_cV (ci := 12) (rest := [.int t28]) (st2 := [.int t34, .int t28]) C (s_X12_byteAt e35) mk_X12_byteAt rfl (ck_k e32) (by decide) im_X12_byteAt sl_X12_byteAt lk_X12_139 rfl rfl rfl dX12_inWords_96 (Nat.le_of_ble_eq_true rfl) ⟨Nat.le_of_ble_eq_true rfl, Nat.le_of_ble_eq_true rfl⟩ ⟨Nat.le_of_ble_eq_true rfl, Nat.le_of_ble_eq_true rfl⟩ ?_
                  refine r_icmp_ne (tgt := 106) C dX12_inWords_99 (by decide) (fun c36 => ?_) (fun c36 => ?_)
                  · rw [if_neg c36] at hf2
                    refine r_iconst (v := 0) C dX12_inWords_106 (by decide) ?_
                    refine r_subk [0, 1, 2, 3, 4, 6] (lv' := [(0, .ref v0), (1, .retAddr v1), (2, .int t15), (3, .int t16), (4, .int t17), (6, .int t21)]) rfl ?_
                    exact J107 t21 (0 : Int32) hf2
                  · rw [if_pos c36] at hf2
                    refine r_iconst (v := 1) C dX12_inWords_102 (by decide) ?_
                    refine r_goto (tgt := 107) C dX12_inWords_103 (by decide) ?_
                    refine r_subk [0, 1, 2, 3, 4, 6] (lv' := [(0, .ref v0), (1, .retAddr v1), (2, .int t15), (3, .int t16), (4, .int t17), (6, .int t21)]) rfl ?_
                    exact J107 t21 (1 : Int32) hf2
          refine r_subk [2, 3, 4, 5, 6, 1, 0] (lv' := [(0, .ref v0), (1, .retAddr v1), (2, .int t15), (3, .int t16), (4, .int t17), (5, .int t18), (6, .int t16)]) rfl ?_
          exact L68 wN t18 t16 hl68
        refine r_iload_n C dX12_inWords_14 rfl ?_
        refine r_sload_n C dX12_inWords_15 rfl ?_
        obtain ⟨t37, e38, hf1⟩ := ob hf1
        refine r_slen C lk_X12_164 dX12_inWords_16 (Nat.le_of_ble_eq_true rfl) ⟨Nat.le_of_ble_eq_true rfl, Nat.le_of_ble_eq_true rfl⟩ ⟨Nat.le_of_ble_eq_true rfl, Nat.le_of_ble_eq_true rfl⟩ e38 ?_
        refine r_icmp_ge (tgt := 133) C dX12_inWords_19 (by decide) (fun c39 => ?_) (fun c39 => ?_)
        · rw [if_pos c39] at hf1
          obtain rfl := so hf1
          obtain rfl := so (show some (.inr () : (Int32) ⊕ (Unit)) = some y4 from hk14)
          dsimp only at hf0
          refine r_iconst (v := -1) C dX12_inWords_133 (by decide) ?_
          obtain rfl := so hf0
          exact r_iret C dX12_inWords_134
        · rw [if_neg c39] at hf1
          refine r_iload_n C dX12_inWords_22 rfl ?_
          refine r_istore (lv' := [(4, .int t6), (0, .ref v0), (1, .retAddr v1), (2, .int t5), (3, .int t6)]) C dX12_inWords_23 (by decide) rfl rfl ?_
          obtain ⟨y40, hl25, hf1⟩ := ob hf1
          have L25 : ∀ (n : Nat) (t41 : Int32), whileL n (fun q : Int32 => f_X12_inWords_b25 h v0 v1 t5 t6 q) t41 = some y40 → gW p l e (rmO 8 0 0) s m args below meth c (MQ below (eQ D cA B Hb h (some (.int out))) args s 0 0 (fun q => B ≤ q)) D cA B Hb 7 h 25 [(0, .ref v0), (1, .retAddr v1), (2, .int t5), (3, .int t6), (4, .int t41)] [] 0 0 := by
            intro n
            induction n with
            | zero => intro t41 hz; cases hz
            | succ n ih25 =>
              intro t41 hz
              obtain ⟨x25, hf2, hk25⟩ := wl hz
              replace hf2 : f_X12_inWords_b25 h v0 v1 t5 t6 t41 = some x25 := hf2
              unfold f_X12_inWords_b25 at hf2
              refine r_sload_n C dX12_inWords_25 rfl ?_
              refine r_iload C dX12_inWords_26 rfl ?_
              obtain ⟨t42, e43, hf2⟩ := ob hf2
              refine r_schr C lk_X12_170 dX12_inWords_28 (Nat.le_of_ble_eq_true rfl) ⟨Nat.le_of_ble_eq_true rfl, Nat.le_of_ble_eq_true rfl⟩ ⟨Nat.le_of_ble_eq_true rfl, Nat.le_of_ble_eq_true rfl⟩ e43 ?_
              refine r_bipush (v := 32) C dX12_inWords_31 (by decide) ?_
              refine r_icmp_eq (tgt := 42) C dX12_inWords_33 (by decide) (fun c44 => ?_) (fun c44 => ?_)
              · rw [if_pos c44] at hf2
                obtain rfl := so hf2
                obtain rfl := so (show some t41 = some y40 from hk25)
                refine r_iload C dX12_inWords_42 rfl ?_
                refine r_iload_n C dX12_inWords_44 rfl ?_
                refine r_isub C dX12_inWords_45 ?_
                refine r_aload_n C dX12_inWords_46 rfl ?_
                obtain ⟨t45, e46, hf1⟩ := ob hf1
                refine r_getI C fk_X12_136 rfl dX12_inWords_47 e46 ?_
                refine r_aload_n C dX12_inWords_50 rfl ?_
                obtain ⟨t47, e48, hf1⟩ := ob hf1
                refine r_getI C fk_X12_143 rfl dX12_inWords_51 e48 ?_
                refine r_isub C dX12_inWords_54 ?_
                refine r_icmp_ne (tgt := 62) C dX12_inWords_55 (by decide) (fun c49 => ?_) (fun c49 => ?_)
                · rw [if_neg c49] at hf1
                  refine r_iconst (v := 0) C dX12_inWords_62 (by decide) ?_
                  exact J63 t5 t6 t41 (0 : Int32) hf1
                · rw [if_pos c49] at hf1
                  refine r_iconst (v := 1) C dX12_inWords_58 (by decide) ?_
                  refine r_goto (tgt := 63) C dX12_inWords_59 (by decide) ?_
                  exact J63 t5 t6 t41 (1 : Int32) hf1
              · rw [if_neg c44] at hf2
                obtain ⟨t50, e51, hf2⟩ := ob hf2
                refine r_iinc (lv' := [(4, .int t50), (0, .ref v0), (1, .retAddr v1), (2, .int t5), (3, .int t6)]) C dX12_inWords_36 rfl e51 (by decide) rfl ?_
                refine r_goto (tgt := 25) C dX12_inWords_39 (by decide) ?_
                obtain rfl := so hf2
                refine r_subk [1, 2, 3, 4, 0] (lv' := [(0, .ref v0), (1, .retAddr v1), (2, .int t5), (3, .int t6), (4, .int t50)]) rfl ?_
                exact ih25 t50 hk25
          refine r_subk [1, 2, 3, 4, 0] (lv' := [(0, .ref v0), (1, .retAddr v1), (2, .int t5), (3, .int t6), (4, .int t6)]) rfl ?_
          exact L25 wN t6 hl25
    refine r_subk [2, 3, 1, 0] (lv' := [(0, .ref v0), (1, .retAddr v1), (2, .int (0 : Int32)), (3, .int (1 : Int32))]) rfl ?_
    exact L14 wN (0 : Int32) (1 : Int32) hl14
  · rw [if_neg c3] at hf0
    refine r_iconst (v := -1) C dX12_inWords_8 (by decide) ?_
    obtain rfl := so hf0
    exact r_iret C dX12_inWords_9
def f_X12_fails_j21 (h : aH) (v0 : Nat) (s0 : Nat) (s1 : Int32) : Option (Int32 × aH) := (pI h 12 s0 19 s1).bind fun h1 => (gI h1 12 v0 14).bind fun t2 => (pI h1 12 v0 18 t2).bind fun h3 => some ((0 : Int32), h3)
def f_X12_fails (h : aH) (v0 : Nat) (v1 : Int32) : Option (Int32 × aH) := (gI h 12 v0 19).bind fun t4 => if t4 = 0 then (gI h 12 v0 13).bind fun t5 => if t5 = (1 : Int32) then f_X12_fails_j21 h v0 v0 (1 : Int32) else f_X12_fails_j21 h v0 v0 v1 else some ((0 : Int32), h)
theorem s_X12_fails {h : aH} {v0 : Nat} {v1 : Int32} {out : Int32 × aH} (hf0 : f_X12_fails h v0 v1 = some out) : EV 0 yX12_fails cX12_fails 2 (some .boolean) h [.ref v0, .int v1] (some (.int out.1)) out.2 0 0 := by
  refine EV.of (own := RX12) (lv0 := [(0, .ref v0), (1, .int v1)]) (by decide +kernel) rfl rfl (Nat.le_of_ble_eq_true rfl) ?_
  intro p l e s m args below meth c D cA B Hb C hin
  unfold f_X12_fails at hf0
  have J21 : ∀ (h1 : aH) (t2 : Nat) (t3 : Nat) (t4 : Int32), f_X12_fails_j21 h1 t2 t3 t4 = some out → gW p l e (rmO 0 0 0) s m args below meth c (MQ below (eQ D cA B Hb out.2 (some (.int out.1))) args s 0 0 (fun q => B ≤ q)) D cA B Hb 2 h1 21 [(0, .ref t2)] [.int t4, .ref t3] 0 0 := by
    intro h1 t2 t3 t4 hf0
    unfold f_X12_fails_j21 at hf0
    obtain ⟨h5, e6, hf0⟩ := ob hf0
    refine r_putI C fk_X12_174 dX12_fails_21 e6 ?_
    refine r_aload_n C dX12_fails_24 rfl ?_
    refine r_aload_n C dX12_fails_25 rfl ?_
    obtain ⟨t7, e8, hf0⟩ := ob hf0
    refine r_getI C fk_X12_143 rfl dX12_fails_26 e8 ?_
    obtain ⟨h9, e10, hf0⟩ := ob hf0
    refine r_putI C fk_X12_44 dX12_fails_29 e10 ?_
    refine r_iconst (v := 0) C dX12_fails_32 (by decide) ?_
    obtain rfl := so hf0
    exact r_zret C dX12_fails_33 (Or.inl rfl)
  refine r_aload_n C dX12_fails_0 rfl ?_
  obtain ⟨t11, e12, hf0⟩ := ob hf0
  refine r_getI C fk_X12_174 rfl dX12_fails_1 e12 ?_
  refine r_ifne (tgt := 32) C dX12_fails_4 (by decide) (fun c13 => ?_) (fun c13 => ?_)
  · rw [if_neg c13] at hf0
    refine r_iconst (v := 0) C dX12_fails_32 (by decide) ?_
    obtain rfl := so hf0
    exact r_zret C dX12_fails_33 (Or.inl rfl)
  · rw [if_pos c13] at hf0
    refine r_aload_n C dX12_fails_7 rfl ?_
    refine r_aload_n C dX12_fails_8 rfl ?_
    obtain ⟨t14, e15, hf0⟩ := ob hf0
    refine r_getI C fk_X12_149 rfl dX12_fails_9 e15 ?_
    refine r_iconst (v := 1) C dX12_fails_12 (by decide) ?_
    refine r_icmp_ne (tgt := 20) C dX12_fails_13 (by decide) (fun c16 => ?_) (fun c16 => ?_)
    · rw [if_neg c16] at hf0
      refine r_iload_n C dX12_fails_20 rfl ?_
      refine r_subk [0] (lv' := [(0, .ref v0)]) rfl ?_
      exact J21 h v0 v0 v1 hf0
    · rw [if_pos c16] at hf0
      refine r_iconst (v := 1) C dX12_fails_16 (by decide) ?_
      refine r_goto (tgt := 21) C dX12_fails_17 (by decide) ?_
      refine r_subk [0] (lv' := [(0, .ref v0)]) rfl ?_
      exact J21 h v0 v0 (1 : Int32) hf0
def f_X12_begins_b26 (v0 : Nat) (v1 : Int32) (v3 : Int32) (h : aH) : Option ((Int32 × aH) ⊕ (aH)) := if v1 ≤ v3 then some (.inr h) else (gR h 12 v0 10).bind fun t3 => (gR h 12 v0 9).bind fun t4 => (lB h t4 v3).bind fun t5 => (sB h t3 v3 t5).bind fun h6 => (some (v3 + (1 : Int32))).bind fun t7 => some (.inl (t7, h6))
def f_X12_begins_l26 (v0 : Nat) (v1 : Int32) (v3 : Int32) (h : aH) : Option (aH) := whileL wN (fun q : Int32 × aH => f_X12_begins_b26 v0 v1 q.1 q.2) (v3, h)
def f_X12_begins (h : aH) (v0 : Nat) (v1 : Int32) (v2 : Int32) : Option (Int32 × aH) := if v1 < 0 then some ((0 : Int32), h) else (gI h 12 v0 11).bind fun t1 => if t1 < v1 then some ((0 : Int32), h) else if v1 ≤ v2 then (pI h 12 v0 12 v1).bind fun h2 => (f_X12_begins_l26 v0 v1 (0 : Int32) h2).bind fun h8 => (pI h8 12 v0 11 (0 : Int32)).bind fun h9 => (pI h9 12 v0 19 (0 : Int32)).bind fun h10 => (pI h10 12 v0 18 (-1 : Int32)).bind fun h11 => (pI h11 12 v0 15 (0 : Int32)).bind fun h12 => (pI h12 12 v0 20 (0 : Int32)).bind fun h13 => (ck h13 12 v0).bind fun _ => (f_X12_ahead h13 v0).bind fun h14 => some ((1 : Int32), h14) else some ((0 : Int32), h)
theorem s_X12_begins {h : aH} {v0 : Nat} {v1 : Int32} {v2 : Int32} {out : Int32 × aH} (hf0 : f_X12_begins h v0 v1 v2 = some out) : EV 2 yX12_begins cX12_begins 4 (some .boolean) h [.ref v0, .int v1, .int v2] (some (.int out.1)) out.2 0 0 := by
  refine EV.of (own := RX12) (lv0 := [(0, .ref v0), (1, .int v1), (2, .int v2)]) (by decide +kernel) rfl rfl (Nat.le_of_ble_eq_true rfl) ?_
  intro p l e s m args below meth c D cA B Hb C hin
  unfold f_X12_begins at hf0
  refine r_iload_n C dX12_begins_0 rfl ?_
  refine r_iflt (tgt := 17) C dX12_begins_1 (by decide) (fun c1 => ?_) (fun c1 => ?_)
  · rw [if_pos c1] at hf0
    refine r_iconst (v := 0) C dX12_begins_17 (by decide) ?_
    obtain rfl := so hf0
    exact r_zret C dX12_begins_18 (Or.inl rfl)
  · rw [if_neg c1] at hf0
    refine r_iload_n C dX12_begins_4 rfl ?_
    refine r_aload_n C dX12_begins_5 rfl ?_
    obtain ⟨t2, e3, hf0⟩ := ob hf0
    refine r_getI C fk_X12_126 rfl dX12_begins_6 e3 ?_
    refine r_icmp_gt (tgt := 17) C dX12_begins_9 (by decide) (fun c4 => ?_) (fun c4 => ?_)
    · rw [if_pos c4] at hf0
      refine r_iconst (v := 0) C dX12_begins_17 (by decide) ?_
      obtain rfl := so hf0
      exact r_zret C dX12_begins_18 (Or.inl rfl)
    · rw [if_neg c4] at hf0
      refine r_iload_n C dX12_begins_12 rfl ?_
      refine r_iload_n C dX12_begins_13 rfl ?_
      refine r_icmp_le (tgt := 19) C dX12_begins_14 (by decide) (fun c5 => ?_) (fun c5 => ?_)
      · rw [if_pos c5] at hf0
        refine r_aload_n C dX12_begins_19 rfl ?_
        refine r_iload_n C dX12_begins_20 rfl ?_
        obtain ⟨h6, e7, hf0⟩ := ob hf0
        refine r_putI C fk_X12_133 dX12_begins_21 e7 ?_
        refine r_iconst (v := 0) C dX12_begins_24 (by decide) ?_
        refine r_istore_n (lv' := [(3, .int (0 : Int32)), (0, .ref v0), (1, .int v1), (2, .int v2)]) C dX12_begins_25 (by decide) rfl rfl ?_
        obtain ⟨y8, hl26, hf0⟩ := ob hf0
        have L26 : ∀ (n : Nat) (t9 : Int32) (h10 : aH), whileL n (fun q : Int32 × aH => f_X12_begins_b26 v0 v1 q.1 q.2) (t9, h10) = some y8 → gW p l e (rmO 2 0 0) s m args below meth c (MQ below (eQ D cA B Hb out.2 (some (.int out.1))) args s 0 0 (fun q => B ≤ q)) D cA B Hb 4 h10 26 [(0, .ref v0), (1, .int v1), (3, .int t9)] [] 0 0 := by
          intro n
          induction n with
          | zero => intro t9 h10 hz; cases hz
          | succ n ih26 =>
            intro t9 h10 hz
            obtain ⟨x26, hf1, hk26⟩ := wl hz
            replace hf1 : f_X12_begins_b26 v0 v1 t9 h10 = some x26 := hf1
            unfold f_X12_begins_b26 at hf1
            refine r_iload_n C dX12_begins_26 rfl ?_
            refine r_iload_n C dX12_begins_27 rfl ?_
            refine r_icmp_ge (tgt := 49) C dX12_begins_28 (by decide) (fun c11 => ?_) (fun c11 => ?_)
            · rw [if_pos c11] at hf1
              obtain rfl := so hf1
              obtain rfl := so (show some h10 = some y8 from hk26)
              refine r_aload_n C dX12_begins_49 rfl ?_
              refine r_iconst (v := 0) C dX12_begins_50 (by decide) ?_
              obtain ⟨h12, e13, hf0⟩ := ob hf0
              refine r_putI C fk_X12_126 dX12_begins_51 e13 ?_
              refine r_aload_n C dX12_begins_54 rfl ?_
              refine r_iconst (v := 0) C dX12_begins_55 (by decide) ?_
              obtain ⟨h14, e15, hf0⟩ := ob hf0
              refine r_putI C fk_X12_174 dX12_begins_56 e15 ?_
              refine r_aload_n C dX12_begins_59 rfl ?_
              refine r_iconst (v := -1) C dX12_begins_60 (by decide) ?_
              obtain ⟨h16, e17, hf0⟩ := ob hf0
              refine r_putI C fk_X12_44 dX12_begins_61 e17 ?_
              refine r_aload_n C dX12_begins_64 rfl ?_
              refine r_iconst (v := 0) C dX12_begins_65 (by decide) ?_
              obtain ⟨h18, e19, hf0⟩ := ob hf0
              refine r_putI C fk_X12_136 dX12_begins_66 e19 ?_
              refine r_aload_n C dX12_begins_69 rfl ?_
              refine r_iconst (v := 0) C dX12_begins_70 (by decide) ?_
              obtain ⟨h20, e21, hf0⟩ := ob hf0
              refine r_putI C fk_X12_177 dX12_begins_71 e21 ?_
              refine r_aload_n C dX12_begins_74 rfl ?_
              obtain ⟨u23, e22, hf0⟩ := ob hf0
              obtain ⟨h24, e25, hf0⟩ := ob hf0
              refine r_cV (ci := 12) (rest := []) (st2 := []) C (s_X12_ahead e25) mk_X12_ahead rfl (ck_k e22) (by decide) im_X12_ahead sl_X12_ahead lk_X12_180 rfl rfl rfl dX12_begins_75 (Nat.le_of_ble_eq_true rfl) ⟨Nat.le_of_ble_eq_true rfl, Nat.le_of_ble_eq_true rfl⟩ ⟨Nat.le_of_ble_eq_true rfl, Nat.le_of_ble_eq_true rfl⟩ ?_
              refine r_iconst (v := 1) C dX12_begins_78 (by decide) ?_
              obtain rfl := so hf0
              exact r_zret C dX12_begins_79 (Or.inr rfl)
            · rw [if_neg c11] at hf1
              refine r_aload_n C dX12_begins_31 rfl ?_
              obtain ⟨t26, e27, hf1⟩ := ob hf1
              refine r_getR C fk_X12_37 rfl dX12_begins_32 e27 ?_
              refine r_iload_n C dX12_begins_35 rfl ?_
              refine r_aload_n C dX12_begins_36 rfl ?_
              obtain ⟨t28, e29, hf1⟩ := ob hf1
              refine r_getR C fk_X12_33 rfl dX12_begins_37 e29 ?_
              refine r_iload_n C dX12_begins_40 rfl ?_
              obtain ⟨t30, e31, hf1⟩ := ob hf1
              refine r_ldB C dX12_begins_41 e31 ?_
              obtain ⟨h32, e33, hf1⟩ := ob hf1
              refine r_stB C dX12_begins_42 e33 ?_
              obtain ⟨t34, e35, hf1⟩ := ob hf1
              refine r_iinc (lv' := [(3, .int t34), (0, .ref v0), (1, .int v1)]) C dX12_begins_43 rfl e35 (by decide) rfl ?_
              refine r_goto (tgt := 26) C dX12_begins_46 (by decide) ?_
              obtain rfl := so hf1
              refine r_subk [1, 2, 0] (lv' := [(0, .ref v0), (1, .int v1), (3, .int t34)]) rfl ?_
              exact ih26 t34 h32 hk26
        refine r_subk [1, 2, 0] (lv' := [(0, .ref v0), (1, .int v1), (3, .int (0 : Int32))]) rfl ?_
        exact L26 wN (0 : Int32) h6 hl26
      · rw [if_neg c5] at hf0
        refine r_iconst (v := 0) C dX12_begins_17 (by decide) ?_
        obtain rfl := so hf0
        exact r_zret C dX12_begins_18 (Or.inl rfl)
def f_X12_wantSign (h : aH) (v0 : Nat) (v1 : Int32) : Option (Int32 × aH) := (ck h 12 v0).bind fun _ => (f_X12_isSign h v0 v1).bind fun t1 => if t1 = 0 then (ck h 12 v0).bind fun _ => bd2 (f_X12_fails h v0 (2 : Int32)) fun t3 h4 => (rZ t3).bind fun t5 => some (t5, h4) else (ck h 12 v0).bind fun _ => (f_X12_ahead h v0).bind fun h2 => some ((1 : Int32), h2)
theorem s_X12_wantSign {h : aH} {v0 : Nat} {v1 : Int32} {out : Int32 × aH} (hf0 : f_X12_wantSign h v0 v1 = some out) : EV 2 yX12_wantSign cX12_wantSign 2 (some .boolean) h [.ref v0, .int v1] (some (.int out.1)) out.2 0 0 := by
  refine EV.of (own := RX12) (lv0 := [(0, .ref v0), (1, .int v1)]) (by decide +kernel) rfl rfl (Nat.le_of_ble_eq_true rfl) ?_
  intro p l e s m args below meth c D cA B Hb C hin
  unfold f_X12_wantSign at hf0
  refine r_aload_n C dX12_wantSign_0 rfl ?_
  refine r_iload_n C dX12_wantSign_1 rfl ?_
  obtain ⟨u2, e1, hf0⟩ := ob hf0
  obtain ⟨t3, e4, hf0⟩ := ob hf0
  refine r_cV (ci := 12) (rest := []) (st2 := [.int t3]) C (s_X12_isSign e4) mk_X12_isSign rfl (ck_k e1) (by decide) im_X12_isSign sl_X12_isSign lk_X12_183 rfl rfl rfl dX12_wantSign_2 (Nat.le_of_ble_eq_true rfl) ⟨Nat.le_of_ble_eq_true rfl, Nat.le_of_ble_eq_true rfl⟩ ⟨Nat.le_of_ble_eq_true rfl, Nat.le_of_ble_eq_true rfl⟩ ?_
  refine r_ifne (tgt := 14) C dX12_wantSign_5 (by decide) (fun c5 => ?_) (fun c5 => ?_)
  · rw [if_neg c5] at hf0
    refine r_aload_n C dX12_wantSign_14 rfl ?_
    obtain ⟨u7, e6, hf0⟩ := ob hf0
    obtain ⟨h8, e9, hf0⟩ := ob hf0
    refine r_cV (ci := 12) (rest := []) (st2 := []) C (s_X12_ahead e9) mk_X12_ahead rfl (ck_k e6) (by decide) im_X12_ahead sl_X12_ahead lk_X12_180 rfl rfl rfl dX12_wantSign_15 (Nat.le_of_ble_eq_true rfl) ⟨Nat.le_of_ble_eq_true rfl, Nat.le_of_ble_eq_true rfl⟩ ⟨Nat.le_of_ble_eq_true rfl, Nat.le_of_ble_eq_true rfl⟩ ?_
    refine r_iconst (v := 1) C dX12_wantSign_18 (by decide) ?_
    obtain rfl := so hf0
    exact r_zret C dX12_wantSign_19 (Or.inr rfl)
  · rw [if_pos c5] at hf0
    refine r_aload_n C dX12_wantSign_8 rfl ?_
    refine r_iconst (v := 2) C dX12_wantSign_9 (by decide) ?_
    obtain ⟨u11, e10, hf0⟩ := ob hf0
    obtain ⟨t12, h13, e14, hf0⟩ := ob2 hf0
    refine r_cV (ci := 12) (rest := []) (st2 := [.int t12]) C (s_X12_fails e14) mk_X12_fails rfl (ck_k e10) (by decide) im_X12_fails sl_X12_fails lk_X12_186 rfl rfl rfl dX12_wantSign_10 (Nat.le_of_ble_eq_true rfl) ⟨Nat.le_of_ble_eq_true rfl, Nat.le_of_ble_eq_true rfl⟩ ⟨Nat.le_of_ble_eq_true rfl, Nat.le_of_ble_eq_true rfl⟩ ?_
    obtain ⟨t15, e16, hf0⟩ := ob hf0
    obtain ⟨rfl, e16z⟩ := rZ_k e16
    obtain rfl := so hf0
    exact r_zret C dX12_wantSign_13 e16z
def f_X12_wantWord (h : aH) (v0 : Nat) (v1 : Nat) (v2 : Int32) : Option (Int32 × aH) := (ck h 12 v0).bind fun _ => (f_X12_inWords h v0 v1).bind fun t1 => if t1 = v2 then (ck h 12 v0).bind fun _ => (f_X12_ahead h v0).bind fun h2 => some ((1 : Int32), h2) else (ck h 12 v0).bind fun _ => bd2 (f_X12_fails h v0 (2 : Int32)) fun t3 h4 => (rZ t3).bind fun t5 => some (t5, h4)
theorem s_X12_wantWord {h : aH} {v0 : Nat} {v1 : Nat} {v2 : Int32} {out : Int32 × aH} (hf0 : f_X12_wantWord h v0 v1 v2 = some out) : EV 9 yX12_wantWord cX12_wantWord 3 (some .boolean) h [.ref v0, .retAddr v1, .int v2] (some (.int out.1)) out.2 0 0 := by
  refine EV.of (own := RX12) (lv0 := [(0, .ref v0), (1, .retAddr v1), (2, .int v2)]) (by decide +kernel) rfl rfl (Nat.le_of_ble_eq_true rfl) ?_
  intro p l e s m args below meth c D cA B Hb C hin
  unfold f_X12_wantWord at hf0
  refine r_aload_n C dX12_wantWord_0 rfl ?_
  refine r_sload_n C dX12_wantWord_1 rfl ?_
  obtain ⟨u2, e1, hf0⟩ := ob hf0
  obtain ⟨t3, e4, hf0⟩ := ob hf0
  refine r_cV (ci := 12) (rest := []) (st2 := [.int t3]) C (s_X12_inWords e4) mk_X12_inWords rfl (ck_k e1) (by decide) im_X12_inWords sl_X12_inWords lk_X12_189 rfl rfl rfl dX12_wantWord_2 (Nat.le_of_ble_eq_true rfl) ⟨Nat.le_of_ble_eq_true rfl, Nat.le_of_ble_eq_true rfl⟩ ⟨Nat.le_of_ble_eq_true rfl, Nat.le_of_ble_eq_true rfl⟩ ?_
  refine r_iload_n C dX12_wantWord_5 rfl ?_
  refine r_icmp_eq (tgt := 15) C dX12_wantWord_6 (by decide) (fun c5 => ?_) (fun c5 => ?_)
  · rw [if_pos c5] at hf0
    refine r_aload_n C dX12_wantWord_15 rfl ?_
    obtain ⟨u7, e6, hf0⟩ := ob hf0
    obtain ⟨h8, e9, hf0⟩ := ob hf0
    refine r_cV (ci := 12) (rest := []) (st2 := []) C (s_X12_ahead e9) mk_X12_ahead rfl (ck_k e6) (by decide) im_X12_ahead sl_X12_ahead lk_X12_180 rfl rfl rfl dX12_wantWord_16 (Nat.le_of_ble_eq_true rfl) ⟨Nat.le_of_ble_eq_true rfl, Nat.le_of_ble_eq_true rfl⟩ ⟨Nat.le_of_ble_eq_true rfl, Nat.le_of_ble_eq_true rfl⟩ ?_
    refine r_iconst (v := 1) C dX12_wantWord_19 (by decide) ?_
    obtain rfl := so hf0
    exact r_zret C dX12_wantWord_20 (Or.inr rfl)
  · rw [if_neg c5] at hf0
    refine r_aload_n C dX12_wantWord_9 rfl ?_
    refine r_iconst (v := 2) C dX12_wantWord_10 (by decide) ?_
    obtain ⟨u11, e10, hf0⟩ := ob hf0
    obtain ⟨t12, h13, e14, hf0⟩ := ob2 hf0
    refine r_cV (ci := 12) (rest := []) (st2 := [.int t12]) C (s_X12_fails e14) mk_X12_fails rfl (ck_k e10) (by decide) im_X12_fails sl_X12_fails lk_X12_186 rfl rfl rfl dX12_wantWord_11 (Nat.le_of_ble_eq_true rfl) ⟨Nat.le_of_ble_eq_true rfl, Nat.le_of_ble_eq_true rfl⟩ ⟨Nat.le_of_ble_eq_true rfl, Nat.le_of_ble_eq_true rfl⟩ ?_
    obtain ⟨t15, e16, hf0⟩ := ob hf0
    obtain ⟨rfl, e16z⟩ := rZ_k e16
    obtain rfl := so hf0
    exact r_zret C dX12_wantWord_14 e16z
def f_X12_number_j30 (h : aH) (v0 : Nat) : Option (Int32 × aH) := (ck h 12 v0).bind fun _ => bd2 (f_X12_fails h v0 (4 : Int32)) fun t1 h2 => (rZ t1).bind fun t3 => some (t3, h2)
def f_X12_number (h : aH) (v0 : Nat) (v1 : Int32) (v2 : Int32) (v3 : Int32) : Option (Int32 × aH) := (gI h 12 v0 13).bind fun t4 => if t4 = (3 : Int32) then (gI h 12 v0 16).bind fun t5 => if t5 < v2 then f_X12_number_j30 h v0 else (gI h 12 v0 16).bind fun t6 => if t6 ≤ v3 then (gR h 12 v0 0).bind fun t7 => (gI h 12 v0 16).bind fun t8 => (sI h t7 v1 t8).bind fun h9 => (ck h9 12 v0).bind fun _ => (f_X12_ahead h9 v0).bind fun h10 => some ((1 : Int32), h10) else f_X12_number_j30 h v0 else (ck h 12 v0).bind fun _ => bd2 (f_X12_fails h v0 (2 : Int32)) fun t11 h12 => (rZ t11).bind fun t13 => some (t13, h12)
theorem s_X12_number {h : aH} {v0 : Nat} {v1 : Int32} {v2 : Int32} {v3 : Int32} {out : Int32 × aH} (hf0 : f_X12_number h v0 v1 v2 v3 = some out) : EV 2 yX12_number cX12_number 4 (some .boolean) h [.ref v0, .int v1, .int v2, .int v3] (some (.int out.1)) out.2 0 0 := by
  refine EV.of (own := RX12) (lv0 := [(0, .ref v0), (1, .int v1), (2, .int v2), (3, .int v3)]) (by decide +kernel) rfl rfl (Nat.le_of_ble_eq_true rfl) ?_
  intro p l e s m args below meth c D cA B Hb C hin
  unfold f_X12_number at hf0
  have J30 : ∀ (h1 : aH) (t2 : Nat), f_X12_number_j30 h1 t2 = some out → gW p l e (rmO 2 0 0) s m args below meth c (MQ below (eQ D cA B Hb out.2 (some (.int out.1))) args s 0 0 (fun q => B ≤ q)) D cA B Hb 4 h1 30 [(0, .ref t2)] [] 0 0 := by
    intro h1 t2 hf0
    unfold f_X12_number_j30 at hf0
    refine r_aload_n C dX12_number_30 rfl ?_
    refine r_iconst (v := 4) C dX12_number_31 (by decide) ?_
    obtain ⟨u4, e3, hf0⟩ := ob hf0
    obtain ⟨t5, h6, e7, hf0⟩ := ob2 hf0
    refine r_cV (ci := 12) (rest := []) (st2 := [.int t5]) C (s_X12_fails e7) mk_X12_fails rfl (ck_k e3) (by decide) im_X12_fails sl_X12_fails lk_X12_186 rfl rfl rfl dX12_number_32 (Nat.le_of_ble_eq_true rfl) ⟨Nat.le_of_ble_eq_true rfl, Nat.le_of_ble_eq_true rfl⟩ ⟨Nat.le_of_ble_eq_true rfl, Nat.le_of_ble_eq_true rfl⟩ ?_
    obtain ⟨t8, e9, hf0⟩ := ob hf0
    obtain ⟨rfl, e9z⟩ := rZ_k e9
    obtain rfl := so hf0
    exact r_zret C dX12_number_35 e9z
  refine r_aload_n C dX12_number_0 rfl ?_
  obtain ⟨t10, e11, hf0⟩ := ob hf0
  refine r_getI C fk_X12_149 rfl dX12_number_1 e11 ?_
  refine r_iconst (v := 3) C dX12_number_4 (by decide) ?_
  refine r_icmp_eq (tgt := 14) C dX12_number_5 (by decide) (fun c12 => ?_) (fun c12 => ?_)
  · rw [if_pos c12] at hf0
    refine r_aload_n C dX12_number_14 rfl ?_
    obtain ⟨t13, e14, hf0⟩ := ob hf0
    refine r_getI C fk_X12_146 rfl dX12_number_15 e14 ?_
    refine r_iload_n C dX12_number_18 rfl ?_
    refine r_icmp_lt (tgt := 30) C dX12_number_19 (by decide) (fun c15 => ?_) (fun c15 => ?_)
    · rw [if_pos c15] at hf0
      refine r_subk [0] (lv' := [(0, .ref v0)]) rfl ?_
      exact J30 h v0 hf0
    · rw [if_neg c15] at hf0
      refine r_aload_n C dX12_number_22 rfl ?_
      obtain ⟨t16, e17, hf0⟩ := ob hf0
      refine r_getI C fk_X12_146 rfl dX12_number_23 e17 ?_
      refine r_iload_n C dX12_number_26 rfl ?_
      refine r_icmp_le (tgt := 36) C dX12_number_27 (by decide) (fun c18 => ?_) (fun c18 => ?_)
      · rw [if_pos c18] at hf0
        refine r_aload_n C dX12_number_36 rfl ?_
        obtain ⟨t19, e20, hf0⟩ := ob hf0
        refine r_getR C fk_X12_7 rfl dX12_number_37 e20 ?_
        refine r_iload_n C dX12_number_40 rfl ?_
        refine r_aload_n C dX12_number_41 rfl ?_
        obtain ⟨t21, e22, hf0⟩ := ob hf0
        refine r_getI C fk_X12_146 rfl dX12_number_42 e22 ?_
        obtain ⟨h23, e24, hf0⟩ := ob hf0
        refine r_stI C dX12_number_45 e24 ?_
        refine r_aload_n C dX12_number_46 rfl ?_
        obtain ⟨u26, e25, hf0⟩ := ob hf0
        obtain ⟨h27, e28, hf0⟩ := ob hf0
        refine r_cV (ci := 12) (rest := []) (st2 := []) C (s_X12_ahead e28) mk_X12_ahead rfl (ck_k e25) (by decide) im_X12_ahead sl_X12_ahead lk_X12_180 rfl rfl rfl dX12_number_47 (Nat.le_of_ble_eq_true rfl) ⟨Nat.le_of_ble_eq_true rfl, Nat.le_of_ble_eq_true rfl⟩ ⟨Nat.le_of_ble_eq_true rfl, Nat.le_of_ble_eq_true rfl⟩ ?_
        refine r_iconst (v := 1) C dX12_number_50 (by decide) ?_
        obtain rfl := so hf0
        exact r_zret C dX12_number_51 (Or.inr rfl)
      · rw [if_neg c18] at hf0
        refine r_subk [0] (lv' := [(0, .ref v0)]) rfl ?_
        exact J30 h v0 hf0
  · rw [if_neg c12] at hf0
    refine r_aload_n C dX12_number_8 rfl ?_
    refine r_iconst (v := 2) C dX12_number_9 (by decide) ?_
    obtain ⟨u30, e29, hf0⟩ := ob hf0
    obtain ⟨t31, h32, e33, hf0⟩ := ob2 hf0
    refine r_cV (ci := 12) (rest := []) (st2 := [.int t31]) C (s_X12_fails e33) mk_X12_fails rfl (ck_k e29) (by decide) im_X12_fails sl_X12_fails lk_X12_186 rfl rfl rfl dX12_number_10 (Nat.le_of_ble_eq_true rfl) ⟨Nat.le_of_ble_eq_true rfl, Nat.le_of_ble_eq_true rfl⟩ ⟨Nat.le_of_ble_eq_true rfl, Nat.le_of_ble_eq_true rfl⟩ ?_
    obtain ⟨t34, e35, hf0⟩ := ob hf0
    obtain ⟨rfl, e35z⟩ := rZ_k e35
    obtain rfl := so hf0
    exact r_zret C dX12_number_13 e35z
def f_X12_isName (h : aH) (v0 : Nat) (v1 : Nat) : Option (Int32) := (gI h 12 v0 13).bind fun t1 => if t1 = (2 : Int32) then (gI h 12 v0 15).bind fun t2 => (gI h 12 v0 14).bind fun t3 => if (8 : Int32) < (t2 - t3) then some (0 : Int32) else (ck h 12 v0).bind fun _ => (f_X12_inWords h v0 v1).bind fun t4 => if t4 = (-1 : Int32) then some (1 : Int32) else some (0 : Int32) else some (0 : Int32)
theorem s_X12_isName {h : aH} {v0 : Nat} {v1 : Nat} {out : Int32} (hf0 : f_X12_isName h v0 v1 = some out) : EV 9 yX12_isName cX12_isName 2 (some .boolean) h [.ref v0, .retAddr v1] (some (.int out)) h 0 0 := by
  refine EV.of (own := RX12) (lv0 := [(0, .ref v0), (1, .retAddr v1)]) (by decide +kernel) rfl rfl (Nat.le_of_ble_eq_true rfl) ?_
  intro p l e s m args below meth c D cA B Hb C hin
  unfold f_X12_isName at hf0
  refine r_aload_n C dX12_isName_0 rfl ?_
  obtain ⟨t1, e2, hf0⟩ := ob hf0
  refine r_getI C fk_X12_149 rfl dX12_isName_1 e2 ?_
  refine r_iconst (v := 2) C dX12_isName_4 (by decide) ?_
  refine r_icmp_ne (tgt := 35) C dX12_isName_5 (by decide) (fun c3 => ?_) (fun c3 => ?_)
  · rw [if_neg c3] at hf0
    refine r_iconst (v := 0) C dX12_isName_35 (by decide) ?_
    obtain rfl := so hf0
    exact r_zret C dX12_isName_36 (Or.inl rfl)
  · rw [if_pos c3] at hf0
    refine r_aload_n C dX12_isName_8 rfl ?_
    obtain ⟨t4, e5, hf0⟩ := ob hf0
    refine r_getI C fk_X12_136 rfl dX12_isName_9 e5 ?_
    refine r_aload_n C dX12_isName_12 rfl ?_
    obtain ⟨t6, e7, hf0⟩ := ob hf0
    refine r_getI C fk_X12_143 rfl dX12_isName_13 e7 ?_
    refine r_isub C dX12_isName_16 ?_
    refine r_bipush (v := 8) C dX12_isName_17 (by decide) ?_
    refine r_icmp_gt (tgt := 35) C dX12_isName_19 (by decide) (fun c8 => ?_) (fun c8 => ?_)
    · rw [if_pos c8] at hf0
      refine r_iconst (v := 0) C dX12_isName_35 (by decide) ?_
      obtain rfl := so hf0
      exact r_zret C dX12_isName_36 (Or.inl rfl)
    · rw [if_neg c8] at hf0
      refine r_aload_n C dX12_isName_22 rfl ?_
      refine r_sload_n C dX12_isName_23 rfl ?_
      obtain ⟨u10, e9, hf0⟩ := ob hf0
      obtain ⟨t11, e12, hf0⟩ := ob hf0
      refine r_cV (ci := 12) (rest := []) (st2 := [.int t11]) C (s_X12_inWords e12) mk_X12_inWords rfl (ck_k e9) (by decide) im_X12_inWords sl_X12_inWords lk_X12_189 rfl rfl rfl dX12_isName_24 (Nat.le_of_ble_eq_true rfl) ⟨Nat.le_of_ble_eq_true rfl, Nat.le_of_ble_eq_true rfl⟩ ⟨Nat.le_of_ble_eq_true rfl, Nat.le_of_ble_eq_true rfl⟩ ?_
      refine r_iconst (v := -1) C dX12_isName_27 (by decide) ?_
      refine r_icmp_ne (tgt := 35) C dX12_isName_28 (by decide) (fun c13 => ?_) (fun c13 => ?_)
      · rw [if_neg c13] at hf0
        refine r_iconst (v := 0) C dX12_isName_35 (by decide) ?_
        obtain rfl := so hf0
        exact r_zret C dX12_isName_36 (Or.inl rfl)
      · rw [if_pos c13] at hf0
        refine r_iconst (v := 1) C dX12_isName_31 (by decide) ?_
        refine r_goto (tgt := 36) C dX12_isName_32 (by decide) ?_
        obtain rfl := so hf0
        exact r_zret C dX12_isName_36 (Or.inr rfl)
def f_X12_nameHere_b7 (h : aH) (v0 : Nat) (v1 : Int64) (v3 : Int32) : Option ((Int64 × Int32) ⊕ (Int64)) := (gI h 12 v0 15).bind fun t2 => if t2 ≤ v3 then some (.inr v1) else (ck h 12 v0).bind fun _ => (f_X12_byteAt h v0 v3).bind fun t3 => (some ((v1 <<< (Int32.toInt64 (8 : Int32) &&& 63)) ||| (Int32.toInt64 t3))).bind fun t4 => (some (v3 + (1 : Int32))).bind fun t5 => some (.inl (t4, t5))
def f_X12_nameHere_l7 (h : aH) (v0 : Nat) (v1 : Int64) (v3 : Int32) : Option (Int64) := whileL wN (fun q : Int64 × Int32 => f_X12_nameHere_b7 h v0 q.1 q.2) (v1, v3)
def f_X12_nameHere (h : aH) (v0 : Nat) : Option (Int64) := (gI h 12 v0 14).bind fun t1 => (f_X12_nameHere_l7 h v0 (0 : Int64) t1).bind fun t6 => some t6
theorem s_X12_nameHere {h : aH} {v0 : Nat} {out : Int64} (hf0 : f_X12_nameHere h v0 = some out) : EV 1 yX12_nameHere cX12_nameHere 4 (some .long) h [.ref v0] (some (.long out)) h 0 0 := by
  refine EV.of (own := RX12) (lv0 := [(0, .ref v0)]) (by decide +kernel) rfl rfl (Nat.le_of_ble_eq_true rfl) ?_
  intro p l e s m args below meth c D cA B Hb C hin
  unfold f_X12_nameHere at hf0
  refine r_lconst (v := 0) C dX12_nameHere_0 (by decide) ?_
  refine r_lstore_n (lv' := [(1, .long (0 : Int64)), (0, .ref v0)]) C dX12_nameHere_1 (by decide) rfl rfl ?_
  refine r_aload_n C dX12_nameHere_2 rfl ?_
  obtain ⟨t1, e2, hf0⟩ := ob hf0
  refine r_getI C fk_X12_143 rfl dX12_nameHere_3 e2 ?_
  refine r_istore_n (lv' := [(3, .int t1), (1, .long (0 : Int64)), (0, .ref v0)]) C dX12_nameHere_6 (by decide) rfl rfl ?_
  obtain ⟨y3, hl7, hf0⟩ := ob hf0
  have L7 : ∀ (n : Nat) (t4 : Int64) (t5 : Int32), whileL n (fun q : Int64 × Int32 => f_X12_nameHere_b7 h v0 q.1 q.2) (t4, t5) = some y3 → gW p l e (rmO 1 0 0) s m args below meth c (MQ below (eQ D cA B Hb h (some (.long out))) args s 0 0 (fun q => B ≤ q)) D cA B Hb 4 h 7 [(0, .ref v0), (1, .long t4), (3, .int t5)] [] 0 0 := by
    intro n
    induction n with
    | zero => intro t4 t5 hz; cases hz
    | succ n ih7 =>
      intro t4 t5 hz
      obtain ⟨x7, hf1, hk7⟩ := wl hz
      replace hf1 : f_X12_nameHere_b7 h v0 t4 t5 = some x7 := hf1
      unfold f_X12_nameHere_b7 at hf1
      refine r_iload_n C dX12_nameHere_7 rfl ?_
      refine r_aload_n C dX12_nameHere_8 rfl ?_
      obtain ⟨t6, e7, hf1⟩ := ob hf1
      refine r_getI C fk_X12_136 rfl dX12_nameHere_9 e7 ?_
      refine r_icmp_ge (tgt := 33) C dX12_nameHere_12 (by decide) (fun c8 => ?_) (fun c8 => ?_)
      · rw [if_pos c8] at hf1
        obtain rfl := so hf1
        obtain rfl := so (show some t4 = some y3 from hk7)
        refine r_lload_n C dX12_nameHere_33 rfl ?_
        obtain rfl := so hf0
        exact r_lret C dX12_nameHere_34
      · rw [if_neg c8] at hf1
        refine r_lload_n C dX12_nameHere_15 rfl ?_
        refine r_bipush (v := 8) C dX12_nameHere_16 (by decide) ?_
        refine r_lshl C dX12_nameHere_18 ?_
        refine r_aload_n C dX12_nameHere_19 rfl ?_
        refine r_iload_n C dX12_nameHere_20 rfl ?_
        obtain ⟨u10, e9, hf1⟩ := ob hf1
        obtain ⟨t11, e12, hf1⟩ := ob hf1
        refine r_cV (ci := 12) (rest := [.long (t4 <<< (Int32.toInt64 (8 : Int32) &&& 63))]) (st2 := [.int t11, .long (t4 <<< (Int32.toInt64 (8 : Int32) &&& 63))]) C (s_X12_byteAt e12) mk_X12_byteAt rfl (ck_k e9) (by decide) im_X12_byteAt sl_X12_byteAt lk_X12_139 rfl rfl rfl dX12_nameHere_21 (Nat.le_of_ble_eq_true rfl) ⟨Nat.le_of_ble_eq_true rfl, Nat.le_of_ble_eq_true rfl⟩ ⟨Nat.le_of_ble_eq_true rfl, Nat.le_of_ble_eq_true rfl⟩ ?_
        refine r_i2l C dX12_nameHere_24 ?_
        refine r_lor C dX12_nameHere_25 ?_
        obtain ⟨t13, e14, hf1⟩ := ob hf1
        refine r_lstore_n (lv' := [(1, .long t13), (0, .ref v0), (3, .int t5)]) C dX12_nameHere_26 (by decide) e14 rfl ?_
        obtain ⟨t15, e16, hf1⟩ := ob hf1
        refine r_iinc (lv' := [(3, .int t15), (1, .long t13), (0, .ref v0)]) C dX12_nameHere_27 rfl e16 (by decide) rfl ?_
        refine r_goto (tgt := 7) C dX12_nameHere_30 (by decide) ?_
        obtain rfl := so hf1
        refine r_subk [2, 1, 0] (lv' := [(0, .ref v0), (1, .long t13), (3, .int t15)]) rfl ?_
        exact ih7 t13 t15 hk7
  refine r_subk [2, 1, 0] (lv' := [(0, .ref v0), (1, .long (0 : Int64)), (3, .int t1)]) rfl ?_
  exact L7 wN (0 : Int64) t1 hl7
def f_X12_findHere_b2 (h : aH) (v0 : Nat) (v1 : Int32) (v2 : Int32) (v3 : Int32) : Option ((Int32) ⊕ ((Int32) ⊕ (Unit))) := if v2 ≤ v3 then some (.inr (.inr ())) else (gR h 12 v0 2).bind fun t1 => (lJ h t1 (v1 + v3)).bind fun t2 => (ck h 12 v0).bind fun _ => (f_X12_nameHere h v0).bind fun t3 => if (lg_cmp t2 t3) = 0 then some (.inr (.inl v3)) else (some (v3 + (1 : Int32))).bind fun t4 => some (.inl t4)
def f_X12_findHere_l2 (h : aH) (v0 : Nat) (v1 : Int32) (v2 : Int32) (v3 : Int32) : Option ((Int32) ⊕ (Unit)) := whileL wN (fun q : Int32 => f_X12_findHere_b2 h v0 v1 v2 q) v3
def f_X12_findHere (h : aH) (v0 : Nat) (v1 : Int32) (v2 : Int32) : Option (Int32) := (f_X12_findHere_l2 h v0 v1 v2 (0 : Int32)).bind fun e => match e with | .inl t5 => some t5 | .inr _ => some (-1 : Int32)
theorem s_X12_findHere {h : aH} {v0 : Nat} {v1 : Int32} {v2 : Int32} {out : Int32} (hf0 : f_X12_findHere h v0 v1 v2 = some out) : EV 2 yX12_findHere cX12_findHere 4 (some .int) h [.ref v0, .int v1, .int v2] (some (.int out)) h 0 0 := by
  refine EV.of (own := RX12) (lv0 := [(0, .ref v0), (1, .int v1), (2, .int v2)]) (by decide +kernel) rfl rfl (Nat.le_of_ble_eq_true rfl) ?_
  intro p l e s m args below meth c D cA B Hb C hin
  unfold f_X12_findHere at hf0
  refine r_iconst (v := 0) C dX12_findHere_0 (by decide) ?_
  refine r_istore_n (lv' := [(3, .int (0 : Int32)), (0, .ref v0), (1, .int v1), (2, .int v2)]) C dX12_findHere_1 (by decide) rfl rfl ?_
  obtain ⟨y1, hl2, hf0⟩ := ob hf0
  have L2 : ∀ (n : Nat) (t2 : Int32), whileL n (fun q : Int32 => f_X12_findHere_b2 h v0 v1 v2 q) t2 = some y1 → gW p l e (rmO 2 0 0) s m args below meth c (MQ below (eQ D cA B Hb h (some (.int out))) args s 0 0 (fun q => B ≤ q)) D cA B Hb 4 h 2 [(0, .ref v0), (1, .int v1), (2, .int v2), (3, .int t2)] [] 0 0 := by
    intro n
    induction n with
    | zero => intro t2 hz; cases hz
    | succ n ih2 =>
      intro t2 hz
      obtain ⟨x2, hf1, hk2⟩ := wl hz
      replace hf1 : f_X12_findHere_b2 h v0 v1 v2 t2 = some x2 := hf1
      unfold f_X12_findHere_b2 at hf1
      refine r_iload_n C dX12_findHere_2 rfl ?_
      refine r_iload_n C dX12_findHere_3 rfl ?_
      refine r_icmp_ge (tgt := 31) C dX12_findHere_4 (by decide) (fun c3 => ?_) (fun c3 => ?_)
      · rw [if_pos c3] at hf1
        obtain rfl := so hf1
        obtain rfl := so (show some (.inr () : (Int32) ⊕ (Unit)) = some y1 from hk2)
        dsimp only at hf0
        refine r_iconst (v := -1) C dX12_findHere_31 (by decide) ?_
        obtain rfl := so hf0
        exact r_iret C dX12_findHere_32
      · rw [if_neg c3] at hf1
        refine r_aload_n C dX12_findHere_7 rfl ?_
        obtain ⟨t4, e5, hf1⟩ := ob hf1
        refine r_getR C fk_X12_17 rfl dX12_findHere_8 e5 ?_
        refine r_iload_n C dX12_findHere_11 rfl ?_
        refine r_iload_n C dX12_findHere_12 rfl ?_
        refine r_iadd C dX12_findHere_13 ?_
        obtain ⟨t6, e7, hf1⟩ := ob hf1
        refine r_ldJ C dX12_findHere_14 e7 ?_
        refine r_aload_n C dX12_findHere_15 rfl ?_
        obtain ⟨u9, e8, hf1⟩ := ob hf1
        obtain ⟨t10, e11, hf1⟩ := ob hf1
        refine r_cV (ci := 12) (rest := [.long t6]) (st2 := [.long t10, .long t6]) C (s_X12_nameHere e11) mk_X12_nameHere rfl (ck_k e8) (by decide) im_X12_nameHere sl_X12_nameHere lk_X12_193 rfl rfl rfl dX12_findHere_16 (Nat.le_of_ble_eq_true rfl) ⟨Nat.le_of_ble_eq_true rfl, Nat.le_of_ble_eq_true rfl⟩ ⟨Nat.le_of_ble_eq_true rfl, Nat.le_of_ble_eq_true rfl⟩ ?_
        refine r_lcmp C dX12_findHere_19 ?_
        refine r_ifne (tgt := 25) C dX12_findHere_20 (by decide) (fun c12 => ?_) (fun c12 => ?_)
        · rw [if_neg c12] at hf1
          obtain ⟨t13, e14, hf1⟩ := ob hf1
          refine r_iinc (lv' := [(3, .int t13), (0, .ref v0), (1, .int v1), (2, .int v2)]) C dX12_findHere_25 rfl e14 (by decide) rfl ?_
          refine r_goto (tgt := 2) C dX12_findHere_28 (by decide) ?_
          obtain rfl := so hf1
          refine r_subk [1, 2, 3, 0] (lv' := [(0, .ref v0), (1, .int v1), (2, .int v2), (3, .int t13)]) rfl ?_
          exact ih2 t13 hk2
        · rw [if_pos c12] at hf1
          obtain rfl := so hf1
          obtain rfl := so (show some (.inl t2 : (Int32) ⊕ (Unit)) = some y1 from hk2)
          dsimp only at hf0
          refine r_iload_n C dX12_findHere_23 rfl ?_
          obtain rfl := so hf0
          exact r_iret C dX12_findHere_24
  refine r_subk [1, 2, 3, 0] (lv' := [(0, .ref v0), (1, .int v1), (2, .int v2), (3, .int (0 : Int32))]) rfl ?_
  exact L2 wN (0 : Int32) hl2
def f_X12_fault (h : aH) (v0 : Nat) (v1 : Int32) : Option (Int32) := if v1 = 0 then (gI h 12 v0 17).bind fun t2 => some t2 else if v1 = (1 : Int32) then (gI h 12 v0 18).bind fun t1 => some t1 else some (-1 : Int32)
theorem s_X12_fault {h : aH} {v0 : Nat} {v1 : Int32} {out : Int32} (hf0 : f_X12_fault h v0 v1 = some out) : EV 0 yX12_fault cX12_fault 2 (some .int) h [.ref v0, .int v1] (some (.int out)) h 0 0 := by
  refine EV.of (own := RX12) (lv0 := [(0, .ref v0), (1, .int v1)]) (by decide +kernel) rfl rfl (Nat.le_of_ble_eq_true rfl) ?_
  intro p l e s m args below meth c D cA B Hb C hin
  unfold f_X12_fault at hf0
  refine r_iload_n C dX12_fault_0 rfl ?_
  refine r_ifne (tgt := 11) C dX12_fault_1 (by decide) (fun c1 => ?_) (fun c1 => ?_)
  · rw [if_neg c1] at hf0
    refine r_iload_n C dX12_fault_11 rfl ?_
    refine r_iconst (v := 1) C dX12_fault_12 (by decide) ?_
    refine r_icmp_ne (tgt := 23) C dX12_fault_13 (by decide) (fun c2 => ?_) (fun c2 => ?_)
    · rw [if_neg c2] at hf0
      refine r_iconst (v := -1) C dX12_fault_23 (by decide) ?_
      obtain rfl := so hf0
      exact r_iret C dX12_fault_24
    · rw [if_pos c2] at hf0
      refine r_aload_n C dX12_fault_16 rfl ?_
      obtain ⟨t3, e4, hf0⟩ := ob hf0
      refine r_getI C fk_X12_44 rfl dX12_fault_17 e4 ?_
      refine r_goto (tgt := 24) C dX12_fault_20 (by decide) ?_
      obtain rfl := so hf0
      exact r_iret C dX12_fault_24
  · rw [if_pos c1] at hf0
    refine r_aload_n C dX12_fault_4 rfl ?_
    obtain ⟨t5, e6, hf0⟩ := ob hf0
    refine r_getI C fk_X12_40 rfl dX12_fault_5 e6 ?_
    refine r_goto (tgt := 24) C dX12_fault_8 (by decide) ?_
    obtain rfl := so hf0
    exact r_iret C dX12_fault_24
def f_X12_taken (h : aH) (v0 : Nat) (v1 : Int32) : Option (Int32 × aH) := (gI h 12 v0 19).bind fun t1 => (pI h 12 v0 17 t1).bind fun h2 => (gI h2 12 v0 19).bind fun t3 => if t3 ≤ 0 then (ck h2 12 v0).bind fun _ => bd2 (f_X12_gives h2 v0 v1) fun t4 h5 => some (t4, h5) else (ck h2 12 v0).bind fun _ => bd2 (f_X12_refuse h2 v0 (9 : Int32)) fun t6 h7 => some (t6, h7)
theorem s_X12_taken {h : aH} {v0 : Nat} {v1 : Int32} {out : Int32 × aH} (hf0 : f_X12_taken h v0 v1 = some out) : EV 1 yX12_taken cX12_taken 2 (some .int) h [.ref v0, .int v1] (some (.int out.1)) out.2 0 0 := by
  refine EV.of (own := RX12) (lv0 := [(0, .ref v0), (1, .int v1)]) (by decide +kernel) rfl rfl (Nat.le_of_ble_eq_true rfl) ?_
  intro p l e s m args below meth c D cA B Hb C hin
  unfold f_X12_taken at hf0
  refine r_aload_n C dX12_taken_0 rfl ?_
  refine r_aload_n C dX12_taken_1 rfl ?_
  obtain ⟨t1, e2, hf0⟩ := ob hf0
  refine r_getI C fk_X12_174 rfl dX12_taken_2 e2 ?_
  obtain ⟨h3, e4, hf0⟩ := ob hf0
  refine r_putI C fk_X12_40 dX12_taken_5 e4 ?_
  refine r_aload_n C dX12_taken_8 rfl ?_
  obtain ⟨t5, e6, hf0⟩ := ob hf0
  refine r_getI C fk_X12_174 rfl dX12_taken_9 e6 ?_
  refine r_ifle (tgt := 24) C dX12_taken_12 (by decide) (fun c7 => ?_) (fun c7 => ?_)
  · rw [if_pos c7] at hf0
    refine r_aload_n C dX12_taken_24 rfl ?_
    refine r_iload_n C dX12_taken_25 rfl ?_
    obtain ⟨u9, e8, hf0⟩ := ob hf0
    obtain ⟨t10, h11, e12, hf0⟩ := ob2 hf0
    refine r_cV (ci := 12) (rest := []) (st2 := [.int t10]) C (s_X12_gives e12) mk_X12_gives rfl (ck_k e8) (by decide) im_X12_gives sl_X12_gives lk_X12_200 rfl rfl rfl dX12_taken_26 (Nat.le_of_ble_eq_true rfl) ⟨Nat.le_of_ble_eq_true rfl, Nat.le_of_ble_eq_true rfl⟩ ⟨Nat.le_of_ble_eq_true rfl, Nat.le_of_ble_eq_true rfl⟩ ?_
    obtain rfl := so hf0
    exact r_iret C dX12_taken_29
  · rw [if_neg c7] at hf0
    refine r_aload_n C dX12_taken_15 rfl ?_
    refine r_bipush (v := 9) C dX12_taken_16 (by decide) ?_
    obtain ⟨u14, e13, hf0⟩ := ob hf0
    obtain ⟨t15, h16, e17, hf0⟩ := ob2 hf0
    refine r_cV (ci := 12) (rest := []) (st2 := [.int t15]) C (s_X12_refuse e17) mk_X12_refuse rfl (ck_k e13) (by decide) im_X12_refuse sl_X12_refuse lk_X12_197 rfl rfl rfl dX12_taken_18 (Nat.le_of_ble_eq_true rfl) ⟨Nat.le_of_ble_eq_true rfl, Nat.le_of_ble_eq_true rfl⟩ ⟨Nat.le_of_ble_eq_true rfl, Nat.le_of_ble_eq_true rfl⟩ ?_
    refine r_goto (tgt := 29) C dX12_taken_21 (by decide) ?_
    obtain rfl := so hf0
    exact r_iret C dX12_taken_29
def f_X12_isFree (h : aH) (v0 : Nat) : Option (Int32) := (gR h 12 v0 0).bind fun t1 => (lI h t1 (1600 : Int32)).bind fun t2 => (ck h 12 v0).bind fun _ => (f_X12_findHere h v0 (176 : Int32) t2).bind fun t3 => if t3 = (-1 : Int32) then (gR h 12 v0 0).bind fun t4 => (lI h t4 (1601 : Int32)).bind fun t5 => (ck h 12 v0).bind fun _ => (f_X12_findHere h v0 (180 : Int32) t5).bind fun t6 => if t6 = (-1 : Int32) then (gR h 12 v0 0).bind fun t7 => (lI h t7 (1603 : Int32)).bind fun t8 => (ck h 12 v0).bind fun _ => (f_X12_findHere h v0 (204 : Int32) t8).bind fun t9 => if t9 = (-1 : Int32) then (gR h 12 v0 0).bind fun t10 => (lI h t10 (1604 : Int32)).bind fun t11 => (ck h 12 v0).bind fun _ => (f_X12_findHere h v0 (216 : Int32) t11).bind fun t12 => if t12 = (-1 : Int32) then some (1 : Int32) else some (0 : Int32) else some (0 : Int32) else some (0 : Int32) else some (0 : Int32)
theorem s_X12_isFree {h : aH} {v0 : Nat} {out : Int32} (hf0 : f_X12_isFree h v0 = some out) : EV 3 yX12_isFree cX12_isFree 1 (some .boolean) h [.ref v0] (some (.int out)) h 0 0 := by
  refine EV.of (own := RX12) (lv0 := [(0, .ref v0)]) (by decide +kernel) rfl rfl (Nat.le_of_ble_eq_true rfl) ?_
  intro p l e s m args below meth c D cA B Hb C hin
  unfold f_X12_isFree at hf0
  refine r_aload_n C dX12_isFree_0 rfl ?_
  refine r_sipush (v := 176) C dX12_isFree_1 (by decide) ?_
  refine r_aload_n C dX12_isFree_4 rfl ?_
  obtain ⟨t1, e2, hf0⟩ := ob hf0
  refine r_getR C fk_X12_7 rfl dX12_isFree_5 e2 ?_
  refine r_sipush (v := 1600) C dX12_isFree_8 (by decide) ?_
  obtain ⟨t3, e4, hf0⟩ := ob hf0
  refine r_ldI C dX12_isFree_11 e4 ?_
  obtain ⟨u6, e5, hf0⟩ := ob hf0
  obtain ⟨t7, e8, hf0⟩ := ob hf0
  refine r_cV (ci := 12) (rest := []) (st2 := [.int t7]) C (s_X12_findHere e8) mk_X12_findHere rfl (ck_k e5) (by decide) im_X12_findHere sl_X12_findHere lk_X12_203 rfl rfl rfl dX12_isFree_12 (Nat.le_of_ble_eq_true rfl) ⟨Nat.le_of_ble_eq_true rfl, Nat.le_of_ble_eq_true rfl⟩ ⟨Nat.le_of_ble_eq_true rfl, Nat.le_of_ble_eq_true rfl⟩ ?_
  refine r_iconst (v := -1) C dX12_isFree_15 (by decide) ?_
  refine r_icmp_ne (tgt := 80) C dX12_isFree_16 (by decide) (fun c9 => ?_) (fun c9 => ?_)
  · rw [if_neg c9] at hf0
    refine r_iconst (v := 0) C dX12_isFree_80 (by decide) ?_
    obtain rfl := so hf0
    exact r_zret C dX12_isFree_81 (Or.inl rfl)
  · rw [if_pos c9] at hf0
    refine r_aload_n C dX12_isFree_19 rfl ?_
    refine r_sipush (v := 180) C dX12_isFree_20 (by decide) ?_
    refine r_aload_n C dX12_isFree_23 rfl ?_
    obtain ⟨t10, e11, hf0⟩ := ob hf0
    refine r_getR C fk_X12_7 rfl dX12_isFree_24 e11 ?_
    refine r_sipush (v := 1601) C dX12_isFree_27 (by decide) ?_
    obtain ⟨t12, e13, hf0⟩ := ob hf0
    refine r_ldI C dX12_isFree_30 e13 ?_
    obtain ⟨u15, e14, hf0⟩ := ob hf0
    obtain ⟨t16, e17, hf0⟩ := ob hf0
    refine r_cV (ci := 12) (rest := []) (st2 := [.int t16]) C (s_X12_findHere e17) mk_X12_findHere rfl (ck_k e14) (by decide) im_X12_findHere sl_X12_findHere lk_X12_203 rfl rfl rfl dX12_isFree_31 (Nat.le_of_ble_eq_true rfl) ⟨Nat.le_of_ble_eq_true rfl, Nat.le_of_ble_eq_true rfl⟩ ⟨Nat.le_of_ble_eq_true rfl, Nat.le_of_ble_eq_true rfl⟩ ?_
    refine r_iconst (v := -1) C dX12_isFree_34 (by decide) ?_
    refine r_icmp_ne (tgt := 80) C dX12_isFree_35 (by decide) (fun c18 => ?_) (fun c18 => ?_)
    · rw [if_neg c18] at hf0
      refine r_iconst (v := 0) C dX12_isFree_80 (by decide) ?_
      obtain rfl := so hf0
      exact r_zret C dX12_isFree_81 (Or.inl rfl)
    · rw [if_pos c18] at hf0
      refine r_aload_n C dX12_isFree_38 rfl ?_
      refine r_sipush (v := 204) C dX12_isFree_39 (by decide) ?_
      refine r_aload_n C dX12_isFree_42 rfl ?_
      obtain ⟨t19, e20, hf0⟩ := ob hf0
      refine r_getR C fk_X12_7 rfl dX12_isFree_43 e20 ?_
      refine r_sipush (v := 1603) C dX12_isFree_46 (by decide) ?_
      obtain ⟨t21, e22, hf0⟩ := ob hf0
      refine r_ldI C dX12_isFree_49 e22 ?_
      obtain ⟨u24, e23, hf0⟩ := ob hf0
      obtain ⟨t25, e26, hf0⟩ := ob hf0
      refine r_cV (ci := 12) (rest := []) (st2 := [.int t25]) C (s_X12_findHere e26) mk_X12_findHere rfl (ck_k e23) (by decide) im_X12_findHere sl_X12_findHere lk_X12_203 rfl rfl rfl dX12_isFree_50 (Nat.le_of_ble_eq_true rfl) ⟨Nat.le_of_ble_eq_true rfl, Nat.le_of_ble_eq_true rfl⟩ ⟨Nat.le_of_ble_eq_true rfl, Nat.le_of_ble_eq_true rfl⟩ ?_
      refine r_iconst (v := -1) C dX12_isFree_53 (by decide) ?_
      refine r_icmp_ne (tgt := 80) C dX12_isFree_54 (by decide) (fun c27 => ?_) (fun c27 => ?_)
      · rw [if_neg c27] at hf0
        refine r_iconst (v := 0) C dX12_isFree_80 (by decide) ?_
        obtain rfl := so hf0
        exact r_zret C dX12_isFree_81 (Or.inl rfl)
      · rw [if_pos c27] at hf0
        refine r_aload_n C dX12_isFree_57 rfl ?_
        refine r_sipush (v := 216) C dX12_isFree_58 (by decide) ?_
        refine r_aload_n C dX12_isFree_61 rfl ?_
        obtain ⟨t28, e29, hf0⟩ := ob hf0
        refine r_getR C fk_X12_7 rfl dX12_isFree_62 e29 ?_
        refine r_sipush (v := 1604) C dX12_isFree_65 (by decide) ?_
        obtain ⟨t30, e31, hf0⟩ := ob hf0
        refine r_ldI C dX12_isFree_68 e31 ?_
        obtain ⟨u33, e32, hf0⟩ := ob hf0
        obtain ⟨t34, e35, hf0⟩ := ob hf0
        refine r_cV (ci := 12) (rest := []) (st2 := [.int t34]) C (s_X12_findHere e35) mk_X12_findHere rfl (ck_k e32) (by decide) im_X12_findHere sl_X12_findHere lk_X12_203 rfl rfl rfl dX12_isFree_69 (Nat.le_of_ble_eq_true rfl) ⟨Nat.le_of_ble_eq_true rfl, Nat.le_of_ble_eq_true rfl⟩ ⟨Nat.le_of_ble_eq_true rfl, Nat.le_of_ble_eq_true rfl⟩ ?_
        refine r_iconst (v := -1) C dX12_isFree_72 (by decide) ?_
        refine r_icmp_ne (tgt := 80) C dX12_isFree_73 (by decide) (fun c36 => ?_) (fun c36 => ?_)
        · rw [if_neg c36] at hf0
          refine r_iconst (v := 0) C dX12_isFree_80 (by decide) ?_
          obtain rfl := so hf0
          exact r_zret C dX12_isFree_81 (Or.inl rfl)
        · rw [if_pos c36] at hf0
          refine r_iconst (v := 1) C dX12_isFree_76 (by decide) ?_
          refine r_goto (tgt := 81) C dX12_isFree_77 (by decide) ?_
          obtain rfl := so hf0
          exact r_zret C dX12_isFree_81 (Or.inr rfl)
def f_X12_newName (h : aH) (v0 : Nat) (v1 : Int32) (v2 : Int32) : Option (Int32 × aH) := (ck h 12 v0).bind fun _ => (f_X12_isName h v0 1).bind fun t1 => if t1 = 0 then (ck h 12 v0).bind fun _ => bd2 (f_X12_fails h v0 (2 : Int32)) fun t10 h11 => (rZ t10).bind fun t12 => some (t12, h11) else (ck h 12 v0).bind fun _ => (f_X12_isFree h v0).bind fun t2 => if t2 = 0 then (ck h 12 v0).bind fun _ => bd2 (f_X12_fails h v0 (3 : Int32)) fun t7 h8 => (rZ t7).bind fun t9 => some (t9, h8) else (gR h 12 v0 2).bind fun t3 => (ck h 12 v0).bind fun _ => (f_X12_nameHere h v0).bind fun t4 => (sJ h t3 (((176 : Int32) + v1) + v2) t4).bind fun h5 => (ck h5 12 v0).bind fun _ => (f_X12_ahead h5 v0).bind fun h6 => some ((1 : Int32), h6)
theorem s_X12_newName {h : aH} {v0 : Nat} {v1 : Int32} {v2 : Int32} {out : Int32 × aH} (hf0 : f_X12_newName h v0 v1 v2 = some out) : EV 10 yX12_newName cX12_newName 3 (some .boolean) h [.ref v0, .int v1, .int v2] (some (.int out.1)) out.2 0 0 := by
  refine EV.of (own := RX12) (lv0 := [(0, .ref v0), (1, .int v1), (2, .int v2)]) (by decide +kernel) rfl rfl (Nat.le_of_ble_eq_true rfl) ?_
  intro p l e s m args below meth c D cA B Hb C hin
  unfold f_X12_newName at hf0
  refine r_aload_n C dX12_newName_0 rfl ?_
  refine r_lds1 C dX12_newName_1 ?_
  obtain ⟨u2, e1, hf0⟩ := ob hf0
  obtain ⟨t3, e4, hf0⟩ := ob hf0
  refine r_cV (ci := 12) (rest := []) (st2 := [.int t3]) C (s_X12_isName e4) mk_X12_isName rfl (ck_k e1) (by decide) im_X12_isName sl_X12_isName lk_X12_208 rfl rfl rfl dX12_newName_3 (Nat.le_of_ble_eq_true rfl) ⟨Nat.le_of_ble_eq_true rfl, Nat.le_of_ble_eq_true rfl⟩ ⟨Nat.le_of_ble_eq_true rfl, Nat.le_of_ble_eq_true rfl⟩ ?_
  refine r_ifne (tgt := 15) C dX12_newName_6 (by decide) (fun c5 => ?_) (fun c5 => ?_)
  · rw [if_neg c5] at hf0
    refine r_aload_n C dX12_newName_15 rfl ?_
    obtain ⟨u7, e6, hf0⟩ := ob hf0
    obtain ⟨t8, e9, hf0⟩ := ob hf0
    refine r_cV (ci := 12) (rest := []) (st2 := [.int t8]) C (s_X12_isFree e9) mk_X12_isFree rfl (ck_k e6) (by decide) im_X12_isFree sl_X12_isFree lk_X12_212 rfl rfl rfl dX12_newName_16 (Nat.le_of_ble_eq_true rfl) ⟨Nat.le_of_ble_eq_true rfl, Nat.le_of_ble_eq_true rfl⟩ ⟨Nat.le_of_ble_eq_true rfl, Nat.le_of_ble_eq_true rfl⟩ ?_
    refine r_ifne (tgt := 28) C dX12_newName_19 (by decide) (fun c10 => ?_) (fun c10 => ?_)
    · rw [if_neg c10] at hf0
      refine r_aload_n C dX12_newName_28 rfl ?_
      obtain ⟨t11, e12, hf0⟩ := ob hf0
      refine r_getR C fk_X12_17 rfl dX12_newName_29 e12 ?_
      refine r_sipush (v := 176) C dX12_newName_32 (by decide) ?_
      refine r_iload_n C dX12_newName_35 rfl ?_
      refine r_iadd C dX12_newName_36 ?_
      refine r_iload_n C dX12_newName_37 rfl ?_
      refine r_iadd C dX12_newName_38 ?_
      refine r_aload_n C dX12_newName_39 rfl ?_
      obtain ⟨u14, e13, hf0⟩ := ob hf0
      obtain ⟨t15, e16, hf0⟩ := ob hf0
      refine r_cV (ci := 12) (rest := [.int (((176 : Int32) + v1) + v2), .ref t11]) (st2 := [.long t15, .int (((176 : Int32) + v1) + v2), .ref t11]) C (s_X12_nameHere e16) mk_X12_nameHere rfl (ck_k e13) (by decide) im_X12_nameHere sl_X12_nameHere lk_X12_193 rfl rfl rfl dX12_newName_40 (Nat.le_of_ble_eq_true rfl) ⟨Nat.le_of_ble_eq_true rfl, Nat.le_of_ble_eq_true rfl⟩ ⟨Nat.le_of_ble_eq_true rfl, Nat.le_of_ble_eq_true rfl⟩ ?_
      obtain ⟨h17, e18, hf0⟩ := ob hf0
      refine r_stJ C dX12_newName_43 e18 ?_
      refine r_aload_n C dX12_newName_44 rfl ?_
      obtain ⟨u20, e19, hf0⟩ := ob hf0
      obtain ⟨h21, e22, hf0⟩ := ob hf0
      refine r_cV (ci := 12) (rest := []) (st2 := []) C (s_X12_ahead e22) mk_X12_ahead rfl (ck_k e19) (by decide) im_X12_ahead sl_X12_ahead lk_X12_180 rfl rfl rfl dX12_newName_45 (Nat.le_of_ble_eq_true rfl) ⟨Nat.le_of_ble_eq_true rfl, Nat.le_of_ble_eq_true rfl⟩ ⟨Nat.le_of_ble_eq_true rfl, Nat.le_of_ble_eq_true rfl⟩ ?_
      refine r_iconst (v := 1) C dX12_newName_48 (by decide) ?_
      obtain rfl := so hf0
      exact r_zret C dX12_newName_49 (Or.inr rfl)
    · rw [if_pos c10] at hf0
      refine r_aload_n C dX12_newName_22 rfl ?_
      refine r_iconst (v := 3) C dX12_newName_23 (by decide) ?_
      obtain ⟨u24, e23, hf0⟩ := ob hf0
      obtain ⟨t25, h26, e27, hf0⟩ := ob2 hf0
      refine r_cV (ci := 12) (rest := []) (st2 := [.int t25]) C (s_X12_fails e27) mk_X12_fails rfl (ck_k e23) (by decide) im_X12_fails sl_X12_fails lk_X12_186 rfl rfl rfl dX12_newName_24 (Nat.le_of_ble_eq_true rfl) ⟨Nat.le_of_ble_eq_true rfl, Nat.le_of_ble_eq_true rfl⟩ ⟨Nat.le_of_ble_eq_true rfl, Nat.le_of_ble_eq_true rfl⟩ ?_
      obtain ⟨t28, e29, hf0⟩ := ob hf0
      obtain ⟨rfl, e29z⟩ := rZ_k e29
      obtain rfl := so hf0
      exact r_zret C dX12_newName_27 e29z
  · rw [if_pos c5] at hf0
    refine r_aload_n C dX12_newName_9 rfl ?_
    refine r_iconst (v := 2) C dX12_newName_10 (by decide) ?_
    obtain ⟨u31, e30, hf0⟩ := ob hf0
    obtain ⟨t32, h33, e34, hf0⟩ := ob2 hf0
    refine r_cV (ci := 12) (rest := []) (st2 := [.int t32]) C (s_X12_fails e34) mk_X12_fails rfl (ck_k e30) (by decide) im_X12_fails sl_X12_fails lk_X12_186 rfl rfl rfl dX12_newName_11 (Nat.le_of_ble_eq_true rfl) ⟨Nat.le_of_ble_eq_true rfl, Nat.le_of_ble_eq_true rfl⟩ ⟨Nat.le_of_ble_eq_true rfl, Nat.le_of_ble_eq_true rfl⟩ ?_
    obtain ⟨t35, e36, hf0⟩ := ob hf0
    obtain ⟨rfl, e36z⟩ := rZ_k e36
    obtain rfl := so hf0
    exact r_zret C dX12_newName_14 e36z
def f_X12_oldName (h : aH) (v0 : Nat) (v1 : Int32) (v2 : Int32) (v3 : Int32) : Option (Int32 × aH) := (ck h 12 v0).bind fun _ => (f_X12_isName h v0 1).bind fun t1 => if t1 = 0 then (ck h 12 v0).bind fun _ => bd2 (f_X12_fails h v0 (2 : Int32)) fun t8 h9 => (rZ t8).bind fun t10 => some (t10, h9) else (ck h 12 v0).bind fun _ => (f_X12_findHere h v0 (v1 + v2) v3).bind fun t2 => (pI h 12 v0 21 t2).bind fun h3 => (gI h3 12 v0 21).bind fun t4 => if t4 = (-1 : Int32) then (ck h3 12 v0).bind fun _ => bd2 (f_X12_fails h3 v0 (3 : Int32)) fun t5 h6 => (rZ t5).bind fun t7 => some (t7, h6) else some ((1 : Int32), h3)
theorem s_X12_oldName {h : aH} {v0 : Nat} {v1 : Int32} {v2 : Int32} {v3 : Int32} {out : Int32 × aH} (hf0 : f_X12_oldName h v0 v1 v2 v3 = some out) : EV 10 yX12_oldName cX12_oldName 4 (some .boolean) h [.ref v0, .int v1, .int v2, .int v3] (some (.int out.1)) out.2 0 0 := by
  refine EV.of (own := RX12) (lv0 := [(0, .ref v0), (1, .int v1), (2, .int v2), (3, .int v3)]) (by decide +kernel) rfl rfl (Nat.le_of_ble_eq_true rfl) ?_
  intro p l e s m args below meth c D cA B Hb C hin
  unfold f_X12_oldName at hf0
  refine r_aload_n C dX12_oldName_0 rfl ?_
  refine r_lds1 C dX12_oldName_1 ?_
  obtain ⟨u2, e1, hf0⟩ := ob hf0
  obtain ⟨t3, e4, hf0⟩ := ob hf0
  refine r_cV (ci := 12) (rest := []) (st2 := [.int t3]) C (s_X12_isName e4) mk_X12_isName rfl (ck_k e1) (by decide) im_X12_isName sl_X12_isName lk_X12_208 rfl rfl rfl dX12_oldName_3 (Nat.le_of_ble_eq_true rfl) ⟨Nat.le_of_ble_eq_true rfl, Nat.le_of_ble_eq_true rfl⟩ ⟨Nat.le_of_ble_eq_true rfl, Nat.le_of_ble_eq_true rfl⟩ ?_
  refine r_ifne (tgt := 15) C dX12_oldName_6 (by decide) (fun c5 => ?_) (fun c5 => ?_)
  · rw [if_neg c5] at hf0
    refine r_aload_n C dX12_oldName_15 rfl ?_
    refine r_aload_n C dX12_oldName_16 rfl ?_
    refine r_iload_n C dX12_oldName_17 rfl ?_
    refine r_iload_n C dX12_oldName_18 rfl ?_
    refine r_iadd C dX12_oldName_19 ?_
    refine r_iload_n C dX12_oldName_20 rfl ?_
    obtain ⟨u7, e6, hf0⟩ := ob hf0
    obtain ⟨t8, e9, hf0⟩ := ob hf0
    refine r_cV (ci := 12) (rest := [.ref v0]) (st2 := [.int t8, .ref v0]) C (s_X12_findHere e9) mk_X12_findHere rfl (ck_k e6) (by decide) im_X12_findHere sl_X12_findHere lk_X12_203 rfl rfl rfl dX12_oldName_21 (Nat.le_of_ble_eq_true rfl) ⟨Nat.le_of_ble_eq_true rfl, Nat.le_of_ble_eq_true rfl⟩ ⟨Nat.le_of_ble_eq_true rfl, Nat.le_of_ble_eq_true rfl⟩ ?_
    obtain ⟨h10, e11, hf0⟩ := ob hf0
    refine r_putI C fk_X12_216 dX12_oldName_24 e11 ?_
    refine r_aload_n C dX12_oldName_27 rfl ?_
    obtain ⟨t12, e13, hf0⟩ := ob hf0
    refine r_getI C fk_X12_216 rfl dX12_oldName_28 e13 ?_
    refine r_iconst (v := -1) C dX12_oldName_31 (by decide) ?_
    refine r_icmp_ne (tgt := 43) C dX12_oldName_32 (by decide) (fun c14 => ?_) (fun c14 => ?_)
    · rw [if_neg c14] at hf0
      refine r_iconst (v := 1) C dX12_oldName_43 (by decide) ?_
      obtain rfl := so hf0
      exact r_zret C dX12_oldName_44 (Or.inr rfl)
    · rw [if_pos c14] at hf0
      refine r_aload_n C dX12_oldName_35 rfl ?_
      refine r_iconst (v := 3) C dX12_oldName_36 (by decide) ?_
      obtain ⟨u16, e15, hf0⟩ := ob hf0
      obtain ⟨t17, h18, e19, hf0⟩ := ob2 hf0
      refine r_cV (ci := 12) (rest := []) (st2 := [.int t17]) C (s_X12_fails e19) mk_X12_fails rfl (ck_k e15) (by decide) im_X12_fails sl_X12_fails lk_X12_186 rfl rfl rfl dX12_oldName_37 (Nat.le_of_ble_eq_true rfl) ⟨Nat.le_of_ble_eq_true rfl, Nat.le_of_ble_eq_true rfl⟩ ⟨Nat.le_of_ble_eq_true rfl, Nat.le_of_ble_eq_true rfl⟩ ?_
      refine r_goto (tgt := 44) C dX12_oldName_40 (by decide) ?_
      obtain ⟨t20, e21, hf0⟩ := ob hf0
      obtain ⟨rfl, e21z⟩ := rZ_k e21
      obtain rfl := so hf0
      exact r_zret C dX12_oldName_44 e21z
  · rw [if_pos c5] at hf0
    refine r_aload_n C dX12_oldName_9 rfl ?_
    refine r_iconst (v := 2) C dX12_oldName_10 (by decide) ?_
    obtain ⟨u23, e22, hf0⟩ := ob hf0
    obtain ⟨t24, h25, e26, hf0⟩ := ob2 hf0
    refine r_cV (ci := 12) (rest := []) (st2 := [.int t24]) C (s_X12_fails e26) mk_X12_fails rfl (ck_k e22) (by decide) im_X12_fails sl_X12_fails lk_X12_186 rfl rfl rfl dX12_oldName_11 (Nat.le_of_ble_eq_true rfl) ⟨Nat.le_of_ble_eq_true rfl, Nat.le_of_ble_eq_true rfl⟩ ⟨Nat.le_of_ble_eq_true rfl, Nat.le_of_ble_eq_true rfl⟩ ?_
    obtain ⟨t27, e28, hf0⟩ := ob hf0
    obtain ⟨rfl, e28z⟩ := rZ_k e28
    obtain rfl := so hf0
    exact r_zret C dX12_oldName_14 e28z
def f_X12_aFact_j276 (h : aH) (v0 : Nat) : Option (Int32 × aH) := (ck h 12 v0).bind fun _ => bd2 (f_X12_fails h v0 (8 : Int32)) fun t1 h2 => (rZ t1).bind fun t3 => some (t3, h2)
def f_X12_aFact_j237 (h : aH) (v0 : Nat) (v1 : Int32) (v2 : Int32) : Option ((Int32 × aH) ⊕ ((aH) ⊕ (aH) ⊕ (aH) ⊕ (Int32 × aH))) := some (.inl (v2, h))
def f_X12_aFact_b113 (v0 : Nat) (v1 : Int32) (v2 : Int32) (h : aH) : Option ((Int32 × aH) ⊕ ((aH) ⊕ (aH) ⊕ (aH) ⊕ (Int32 × aH))) := (ck h 12 v0).bind fun _ => (f_X12_isName h v0 1).bind fun t21 => if t21 = 0 then some (.inr (.inr (.inr (.inr (v2, h))))) else (ck h 12 v0).bind fun _ => (f_X12_isFree h v0).bind fun t22 => if t22 = 0 then some (.inr (.inl h)) else if v2 = (6 : Int32) then some (.inr (.inr (.inl h))) else (gR h 12 v0 0).bind fun t23 => (lI h t23 (1601 : Int32)).bind fun t24 => (gR h 12 v0 2).bind fun t25 => (ck h 12 v0).bind fun _ => (f_X12_nameHere h v0).bind fun t26 => (sJ h t25 ((180 : Int32) + t24) t26).bind fun h27 => (gR h27 12 v0 0).bind fun t28 => (sI h27 t28 ((1608 : Int32) + t24) v1).bind fun h29 => (gR h29 12 v0 0).bind fun t30 => (sI h29 t30 ((1632 : Int32) + t24) (1 : Int32)).bind fun h31 => (gR h31 12 v0 0).bind fun t32 => (lI h31 t32 (1601 : Int32)).bind fun t33 => (sI h31 t32 (1601 : Int32) (t33 + (1 : Int32))).bind fun h34 => (some (v2 + (1 : Int32))).bind fun t35 => (ck h34 12 v0).bind fun _ => (f_X12_ahead h34 v0).bind fun h36 => (gI h36 12 v0 13).bind fun t37 => if t37 = (3 : Int32) then (ck h36 12 v0).bind fun _ => bd2 (f_X12_number h36 v0 ((1632 : Int32) + t24) (1 : Int32) (9 : Int32)) fun t38 h39 => if t38 = 0 then some (.inr (.inr (.inr (.inl h39)))) else f_X12_aFact_j237 h39 v0 v1 t35 else f_X12_aFact_j237 h36 v0 v1 t35
def f_X12_aFact_l113 (v0 : Nat) (v1 : Int32) (v2 : Int32) (h : aH) : Option ((aH) ⊕ (aH) ⊕ (aH) ⊕ (Int32 × aH)) := whileL wN (fun q : Int32 × aH => f_X12_aFact_b113 v0 v1 q.1 q.2) (v2, h)
def f_X12_aFact (h : aH) (v0 : Nat) : Option (Int32 × aH) := (gR h 12 v0 0).bind fun t4 => (lI h t4 (1600 : Int32)).bind fun t5 => if t5 = (4 : Int32) then (ck h 12 v0).bind fun _ => bd2 (f_X12_fails h v0 (6 : Int32)) fun t68 h69 => (rZ t68).bind fun t70 => some (t70, h69) else (gR h 12 v0 0).bind fun t6 => (lI h t6 (1603 : Int32)).bind fun t7 => if t7 ≤ 0 then (ck h 12 v0).bind fun _ => (f_X12_ahead h v0).bind fun h8 => (ck h8 12 v0).bind fun _ => bd2 (f_X12_newName h8 v0 (0 : Int32) t5) fun t9 h10 => if t9 = 0 then some ((0 : Int32), h10) else (gR h10 12 v0 0).bind fun t11 => (lI h10 t11 (1600 : Int32)).bind fun t12 => (sI h10 t11 (1600 : Int32) (t12 + (1 : Int32))).bind fun h13 => (ck h13 12 v0).bind fun _ => bd2 (f_X12_wantWord h13 v0 1 (4 : Int32)) fun t14 h15 => if t14 = 0 then some ((0 : Int32), h15) else (ck h15 12 v0).bind fun _ => (f_X12_isName h15 v0 1).bind fun t16 => if t16 = 0 then (ck h15 12 v0).bind fun _ => bd2 (f_X12_fails h15 v0 (2 : Int32)) fun t62 h63 => (rZ t62).bind fun t64 => some (t64, h63) else (gR h15 12 v0 0).bind fun t17 => (gR h15 12 v0 0).bind fun t18 => (lI h15 t18 (1601 : Int32)).bind fun t19 => (sI h15 t17 ((1656 : Int32) + t5) t19).bind fun h20 => (f_X12_aFact_l113 v0 t5 (0 : Int32) h20).bind fun e => match e with | .inl h40 => (ck h40 12 v0).bind fun _ => bd2 (f_X12_fails h40 v0 (3 : Int32)) fun t41 h42 => (rZ t41).bind fun t43 => some (t43, h42) | .inr (.inl h44) => (ck h44 12 v0).bind fun _ => bd2 (f_X12_fails h44 v0 (6 : Int32)) fun t45 h46 => (rZ t45).bind fun t47 => some (t47, h46) | .inr (.inr (.inl h48)) => some ((0 : Int32), h48) | .inr (.inr (.inr (t49, h50))) => (ck h50 12 v0).bind fun _ => (f_X12_isSign h50 v0 (59 : Int32)).bind fun t51 => if t51 = 0 then (ck h50 12 v0).bind fun _ => bd2 (f_X12_fails h50 v0 (2 : Int32)) fun t59 h60 => (rZ t59).bind fun t61 => some (t61, h60) else if t49 < (2 : Int32) then f_X12_aFact_j276 h50 v0 else (gR h50 12 v0 0).bind fun t52 => (lI h50 t52 (1602 : Int32)).bind fun t53 => if (t53 * t49) ≤ (256 : Int32) then (gR h50 12 v0 0).bind fun t54 => (sI h50 t54 ((1660 : Int32) + t5) t49).bind fun h55 => (gR h55 12 v0 0).bind fun t56 => (lI h55 t56 (1602 : Int32)).bind fun t57 => (sI h55 t56 (1602 : Int32) (t57 * t49)).bind fun h58 => some ((1 : Int32), h58) else f_X12_aFact_j276 h50 v0 else (ck h 12 v0).bind fun _ => bd2 (f_X12_fails h v0 (7 : Int32)) fun t65 h66 => (rZ t65).bind fun t67 => some (t67, h66)
theorem s_X12_aFact {h : aH} {v0 : Nat} {out : Int32 × aH} (hf0 : f_X12_aFact h v0 = some out) : EV 11 yX12_aFact cX12_aFact 4 (some .boolean) h [.ref v0] (some (.int out.1)) out.2 0 0 := by
  refine EV.of (own := RX12) (lv0 := [(0, .ref v0)]) (by decide +kernel) rfl rfl (Nat.le_of_ble_eq_true rfl) ?_
  intro p l e s m args below meth c D cA B Hb C hin
  unfold f_X12_aFact at hf0
  have J276 : ∀ (h1 : aH) (t2 : Nat), f_X12_aFact_j276 h1 t2 = some out → gW p l e (rmO 11 0 0) s m args below meth c (MQ below (eQ D cA B Hb out.2 (some (.int out.1))) args s 0 0 (fun q => B ≤ q)) D cA B Hb 4 h1 276 [(0, .ref t2)] [] 0 0 := by
    intro h1 t2 hf0
    unfold f_X12_aFact_j276 at hf0
    refine r_aload_n C dX12_aFact_276 rfl ?_
    refine r_bipush (v := 8) C dX12_aFact_277 (by decide) ?_
    obtain ⟨u4, e3, hf0⟩ := ob hf0
    obtain ⟨t5, h6, e7, hf0⟩ := ob2 hf0
    refine r_cV (ci := 12) (rest := []) (st2 := [.int t5]) C (s_X12_fails e7) mk_X12_fails rfl (ck_k e3) (by decide) im_X12_fails sl_X12_fails lk_X12_186 rfl rfl rfl dX12_aFact_279 (Nat.le_of_ble_eq_true rfl) ⟨Nat.le_of_ble_eq_true rfl, Nat.le_of_ble_eq_true rfl⟩ ⟨Nat.le_of_ble_eq_true rfl, Nat.le_of_ble_eq_true rfl⟩ ?_
    obtain ⟨t8, e9, hf0⟩ := ob hf0
    obtain ⟨rfl, e9z⟩ := rZ_k e9
    obtain rfl := so hf0
    exact r_zret C dX12_aFact_282 e9z
  refine r_aload_n C dX12_aFact_0 rfl ?_
  obtain ⟨t10, e11, hf0⟩ := ob hf0
  refine r_getR C fk_X12_7 rfl dX12_aFact_1 e11 ?_
  refine r_sipush (v := 1600) C dX12_aFact_4 (by decide) ?_
  obtain ⟨t12, e13, hf0⟩ := ob hf0
  refine r_ldI C dX12_aFact_7 e13 ?_
  refine r_istore_n (lv' := [(1, .int t12), (0, .ref v0)]) C dX12_aFact_8 (by decide) rfl rfl ?_
  refine r_iload_n C dX12_aFact_9 rfl ?_
  refine r_iconst (v := 4) C dX12_aFact_10 (by decide) ?_
  refine r_icmp_ne (tgt := 21) C dX12_aFact_11 (by decide) (fun c14 => ?_) (fun c14 => ?_)
  · rw [if_neg c14] at hf0
    refine r_aload_n C dX12_aFact_21 rfl ?_
    obtain ⟨t15, e16, hf0⟩ := ob hf0
    refine r_getR C fk_X12_7 rfl dX12_aFact_22 e16 ?_
    refine r_sipush (v := 1603) C dX12_aFact_25 (by decide) ?_
    obtain ⟨t17, e18, hf0⟩ := ob hf0
    refine r_ldI C dX12_aFact_28 e18 ?_
    refine r_ifle (tgt := 39) C dX12_aFact_29 (by decide) (fun c19 => ?_) (fun c19 => ?_)
    · rw [if_pos c19] at hf0
      refine r_aload_n C dX12_aFact_39 rfl ?_
      obtain ⟨u21, e20, hf0⟩ := ob hf0
      obtain ⟨h22, e23, hf0⟩ := ob hf0
      refine r_cV (ci := 12) (rest := []) (st2 := []) C (s_X12_ahead e23) mk_X12_ahead rfl (ck_k e20) (by decide) im_X12_ahead sl_X12_ahead lk_X12_180 rfl rfl rfl dX12_aFact_40 (Nat.le_of_ble_eq_true rfl) ⟨Nat.le_of_ble_eq_true rfl, Nat.le_of_ble_eq_true rfl⟩ ⟨Nat.le_of_ble_eq_true rfl, Nat.le_of_ble_eq_true rfl⟩ ?_
      refine r_aload_n C dX12_aFact_43 rfl ?_
      refine r_iconst (v := 0) C dX12_aFact_44 (by decide) ?_
      refine r_iload_n C dX12_aFact_45 rfl ?_
      obtain ⟨u25, e24, hf0⟩ := ob hf0
      obtain ⟨t26, h27, e28, hf0⟩ := ob2 hf0
      refine r_cV (ci := 12) (rest := []) (st2 := [.int t26]) C (s_X12_newName e28) mk_X12_newName rfl (ck_k e24) (by decide) im_X12_newName sl_X12_newName lk_X12_219 rfl rfl rfl dX12_aFact_46 (Nat.le_of_ble_eq_true rfl) ⟨Nat.le_of_ble_eq_true rfl, Nat.le_of_ble_eq_true rfl⟩ ⟨Nat.le_of_ble_eq_true rfl, Nat.le_of_ble_eq_true rfl⟩ ?_
      refine r_ifne (tgt := 54) C dX12_aFact_49 (by decide) (fun c29 => ?_) (fun c29 => ?_)
      · rw [if_neg c29] at hf0
        refine r_aload_n C dX12_aFact_54 rfl ?_
        obtain ⟨t30, e31, hf0⟩ := ob hf0
        refine r_getR C fk_X12_7 rfl dX12_aFact_55 e31 ?_
        refine r_sipush (v := 1600) C dX12_aFact_58 (by decide) ?_
        refine r_dup2 C dX12_aFact_61 rfl rfl ?_
        obtain ⟨t32, e33, hf0⟩ := ob hf0
        refine r_ldI C dX12_aFact_62 e33 ?_
        refine r_iconst (v := 1) C dX12_aFact_63 (by decide) ?_
        refine r_iadd C dX12_aFact_64 ?_
        obtain ⟨h34, e35, hf0⟩ := ob hf0
        refine r_stI C dX12_aFact_65 e35 ?_
        refine r_aload_n C dX12_aFact_66 rfl ?_
        refine r_lds1 C dX12_aFact_67 ?_
        refine r_iconst (v := 4) C dX12_aFact_69 (by decide) ?_
        obtain ⟨u37, e36, hf0⟩ := ob hf0
        obtain ⟨t38, h39, e40, hf0⟩ := ob2 hf0
        refine r_cV (ci := 12) (rest := []) (st2 := [.int t38]) C (s_X12_wantWord e40) mk_X12_wantWord rfl (ck_k e36) (by decide) im_X12_wantWord sl_X12_wantWord lk_X12_223 rfl rfl rfl dX12_aFact_70 (Nat.le_of_ble_eq_true rfl) ⟨Nat.le_of_ble_eq_true rfl, Nat.le_of_ble_eq_true rfl⟩ ⟨Nat.le_of_ble_eq_true rfl, Nat.le_of_ble_eq_true rfl⟩ ?_
        refine r_ifne (tgt := 78) C dX12_aFact_73 (by decide) (fun c41 => ?_) (fun c41 => ?_)
        · rw [if_neg c41] at hf0
          refine r_aload_n C dX12_aFact_78 rfl ?_
          refine r_lds1 C dX12_aFact_79 ?_
          obtain ⟨u43, e42, hf0⟩ := ob hf0
          obtain ⟨t44, e45, hf0⟩ := ob hf0
          refine r_cV (ci := 12) (rest := []) (st2 := [.int t44]) C (s_X12_isName e45) mk_X12_isName rfl (ck_k e42) (by decide) im_X12_isName sl_X12_isName lk_X12_208 rfl rfl rfl dX12_aFact_81 (Nat.le_of_ble_eq_true rfl) ⟨Nat.le_of_ble_eq_true rfl, Nat.le_of_ble_eq_true rfl⟩ ⟨Nat.le_of_ble_eq_true rfl, Nat.le_of_ble_eq_true rfl⟩ ?_
          refine r_ifne (tgt := 93) C dX12_aFact_84 (by decide) (fun c46 => ?_) (fun c46 => ?_)
          · rw [if_neg c46] at hf0
            refine r_aload_n C dX12_aFact_93 rfl ?_
            obtain ⟨t47, e48, hf0⟩ := ob hf0
            refine r_getR C fk_X12_7 rfl dX12_aFact_94 e48 ?_
            refine r_sipush (v := 1656) C dX12_aFact_97 (by decide) ?_
            refine r_iload_n C dX12_aFact_100 rfl ?_
            refine r_iadd C dX12_aFact_101 ?_
            refine r_aload_n C dX12_aFact_102 rfl ?_
            obtain ⟨t49, e50, hf0⟩ := ob hf0
            refine r_getR C fk_X12_7 rfl dX12_aFact_103 e50 ?_
            refine r_sipush (v := 1601) C dX12_aFact_106 (by decide) ?_
            obtain ⟨t51, e52, hf0⟩ := ob hf0
            refine r_ldI C dX12_aFact_109 e52 ?_
            obtain ⟨h53, e54, hf0⟩ := ob hf0
            refine r_stI C dX12_aFact_110 e54 ?_
            refine r_iconst (v := 0) C dX12_aFact_111 (by decide) ?_
            refine r_istore_n (lv' := [(2, .int (0 : Int32)), (1, .int t12), (0, .ref v0)]) C dX12_aFact_112 (by decide) rfl rfl ?_
            obtain ⟨y55, hl113, hf0⟩ := ob hf0
            have L113 : ∀ (n : Nat) (t56 : Int32) (h57 : aH), whileL n (fun q : Int32 × aH => f_X12_aFact_b113 v0 t12 q.1 q.2) (t56, h57) = some y55 → gW p l e (rmO 11 0 0) s m args below meth c (MQ below (eQ D cA B Hb out.2 (some (.int out.1))) args s 0 0 (fun q => B ≤ q)) D cA B Hb 4 h57 113 [(0, .ref v0), (1, .int t12), (2, .int t56)] [] 0 0 := by
              intro n
              induction n with
              | zero => intro t56 h57 hz; cases hz
              | succ n ih113 =>
                intro t56 h57 hz
                obtain ⟨x113, hf1, hk113⟩ := wl hz
                replace hf1 : f_X12_aFact_b113 v0 t12 t56 h57 = some x113 := hf1
                unfold f_X12_aFact_b113 at hf1
                have J237 : ∀ (h58 : aH) (t59 : Int32), f_X12_aFact_j237 h58 v0 t12 t59 = some x113 → gW p l e (rmO 11 0 0) s m args below meth c (MQ below (eQ D cA B Hb out.2 (some (.int out.1))) args s 0 0 (fun q => B ≤ q)) D cA B Hb 4 h58 237 [(0, .ref v0), (1, .int t12), (2, .int t59)] [] 0 0 := by
                  intro h58 t59 hf1
                  unfold f_X12_aFact_j237 at hf1
                  refine r_goto (tgt := 113) C dX12_aFact_237 (by decide) ?_
                  obtain rfl := so hf1
                  exact ih113 t59 h58 hk113
                refine r_aload_n C dX12_aFact_113 rfl ?_
                refine r_lds1 C dX12_aFact_114 ?_
                obtain ⟨u61, e60, hf1⟩ := ob hf1
                obtain ⟨t62, e63, hf1⟩ := ob hf1
                refine r_cV (ci := 12) (rest := []) (st2 := [.int t62]) C (s_X12_isName e63) mk_X12_isName rfl (ck_k e60) (by decide) im_X12_isName sl_X12_isName lk_X12_208 rfl rfl rfl dX12_aFact_116 (Nat.le_of_ble_eq_true rfl) ⟨Nat.le_of_ble_eq_true rfl, Nat.le_of_ble_eq_true rfl⟩ ⟨Nat.le_of_ble_eq_true rfl, Nat.le_of_ble_eq_true rfl⟩ ?_
                refine r_ifeq (tgt := 240) C dX12_aFact_119 (by decide) (fun c64 => ?_) (fun c64 => ?_)
                · rw [if_pos c64] at hf1
                  obtain rfl := so hf1
                  obtain rfl := so (show some (.inr (.inr (.inr (t56, h57))) : (aH) ⊕ (aH) ⊕ (aH) ⊕ (Int32 × aH)) = some y55 from hk113)
                  dsimp only at hf0
                  refine r_aload_n C dX12_aFact_240 rfl ?_
                  refine r_bipush (v := 59) C dX12_aFact_241 (by decide) ?_
                  obtain ⟨u66, e65, hf0⟩ := ob hf0
                  obtain ⟨t67, e68, hf0⟩ := ob hf0
                  refine r_cV (ci := 12) (rest := []) (st2 := [.int t67]) C (s_X12_isSign e68) mk_X12_isSign rfl (ck_k e65) (by decide) im_X12_isSign sl_X12_isSign lk_X12_183 rfl rfl rfl dX12_aFact_243 (Nat.le_of_ble_eq_true rfl) ⟨Nat.le_of_ble_eq_true rfl, Nat.le_of_ble_eq_true rfl⟩ ⟨Nat.le_of_ble_eq_true rfl, Nat.le_of_ble_eq_true rfl⟩ ?_
                  refine r_ifne (tgt := 255) C dX12_aFact_246 (by decide) (fun c69 => ?_) (fun c69 => ?_)
                  · rw [if_neg c69] at hf0
                    refine r_iload_n C dX12_aFact_255 rfl ?_
                    refine r_iconst (v := 2) C dX12_aFact_256 (by decide) ?_
                    refine r_icmp_lt (tgt := 276) C dX12_aFact_257 (by decide) (fun c70 => ?_) (fun c70 => ?_)
                    · rw [if_pos c70] at hf0
                      refine r_subk [0] (lv' := [(0, .ref v0)]) rfl ?_
                      exact J276 h57 v0 hf0
                    · rw [if_neg c70] at hf0
                      refine r_aload_n C dX12_aFact_260 rfl ?_
                      obtain ⟨t71, e72, hf0⟩ := ob hf0
                      refine r_getR C fk_X12_7 rfl dX12_aFact_261 e72 ?_
                      refine r_sipush (v := 1602) C dX12_aFact_264 (by decide) ?_
                      obtain ⟨t73, e74, hf0⟩ := ob hf0
                      refine r_ldI C dX12_aFact_267 e74 ?_
                      refine r_iload_n C dX12_aFact_268 rfl ?_
                      refine r_imul C dX12_aFact_269 ?_
                      refine r_sipush (v := 256) C dX12_aFact_270 (by decide) ?_
                      refine r_icmp_le (tgt := 283) C dX12_aFact_273 (by decide) (fun c75 => ?_) (fun c75 => ?_)
                      · rw [if_pos c75] at hf0
                        refine r_aload_n C dX12_aFact_283 rfl ?_
                        obtain ⟨t76, e77, hf0⟩ := ob hf0
                        refine r_getR C fk_X12_7 rfl dX12_aFact_284 e77 ?_
                        refine r_sipush (v := 1660) C dX12_aFact_287 (by decide) ?_
                        refine r_iload_n C dX12_aFact_290 rfl ?_
                        refine r_iadd C dX12_aFact_291 ?_
                        refine r_iload_n C dX12_aFact_292 rfl ?_
                        obtain ⟨h78, e79, hf0⟩ := ob hf0
                        refine r_stI C dX12_aFact_293 e79 ?_
                        refine r_aload_n C dX12_aFact_294 rfl ?_
                        obtain ⟨t80, e81, hf0⟩ := ob hf0
                        refine r_getR C fk_X12_7 rfl dX12_aFact_295 e81 ?_
                        refine r_sipush (v := 1602) C dX12_aFact_298 (by decide) ?_
                        refine r_dup2 C dX12_aFact_301 rfl rfl ?_
                        obtain ⟨t82, e83, hf0⟩ := ob hf0
                        refine r_ldI C dX12_aFact_302 e83 ?_
                        refine r_iload_n C dX12_aFact_303 rfl ?_
                        refine r_imul C dX12_aFact_304 ?_
                        obtain ⟨h84, e85, hf0⟩ := ob hf0
                        refine r_stI C dX12_aFact_305 e85 ?_
                        refine r_iconst (v := 1) C dX12_aFact_306 (by decide) ?_
                        obtain rfl := so hf0
                        exact r_zret C dX12_aFact_307 (Or.inr rfl)
                      · rw [if_neg c75] at hf0
                        refine r_subk [0] (lv' := [(0, .ref v0)]) rfl ?_
                        exact J276 h57 v0 hf0
                  · rw [if_pos c69] at hf0
                    refine r_aload_n C dX12_aFact_249 rfl ?_
                    refine r_iconst (v := 2) C dX12_aFact_250 (by decide) ?_
                    obtain ⟨u87, e86, hf0⟩ := ob hf0
                    obtain ⟨t88, h89, e90, hf0⟩ := ob2 hf0
                    refine r_cV (ci := 12) (rest := []) (st2 := [.int t88]) C (s_X12_fails e90) mk_X12_fails rfl (ck_k e86) (by decide) im_X12_fails sl_X12_fails lk_X12_186 rfl rfl rfl dX12_aFact_251 (Nat.le_of_ble_eq_true rfl) ⟨Nat.le_of_ble_eq_true rfl, Nat.le_of_ble_eq_true rfl⟩ ⟨Nat.le_of_ble_eq_true rfl, Nat.le_of_ble_eq_true rfl⟩ ?_
                    obtain ⟨t91, e92, hf0⟩ := ob hf0
                    obtain ⟨rfl, e92z⟩ := rZ_k e92
                    obtain rfl := so hf0
                    exact r_zret C dX12_aFact_254 e92z
                · rw [if_neg c64] at hf1
                  refine r_aload_n C dX12_aFact_122 rfl ?_
                  obtain ⟨u94, e93, hf1⟩ := ob hf1
                  obtain ⟨t95, e96, hf1⟩ := ob hf1
                  refine r_cV (ci := 12) (rest := []) (st2 := [.int t95]) C (s_X12_isFree e96) mk_X12_isFree rfl (ck_k e93) (by decide) im_X12_isFree sl_X12_isFree lk_X12_212 rfl rfl rfl dX12_aFact_123 (Nat.le_of_ble_eq_true rfl) ⟨Nat.le_of_ble_eq_true rfl, Nat.le_of_ble_eq_true rfl⟩ ⟨Nat.le_of_ble_eq_true rfl, Nat.le_of_ble_eq_true rfl⟩ ?_
                  refine r_ifne (tgt := 135) C dX12_aFact_126 (by decide) (fun c97 => ?_) (fun c97 => ?_)
                  · rw [if_neg c97] at hf1
                    refine r_iload_n C dX12_aFact_135 rfl ?_
                    refine r_bipush (v := 6) C dX12_aFact_136 (by decide) ?_
                    refine r_icmp_ne (tgt := 148) C dX12_aFact_138 (by decide) (fun c98 => ?_) (fun c98 => ?_)
                    · rw [if_neg c98] at hf1
                      refine r_aload_n C dX12_aFact_148 rfl ?_
                      obtain ⟨t99, e100, hf1⟩ := ob hf1
                      refine r_getR C fk_X12_7 rfl dX12_aFact_149 e100 ?_
                      refine r_sipush (v := 1601) C dX12_aFact_152 (by decide) ?_
                      obtain ⟨t101, e102, hf1⟩ := ob hf1
                      refine r_ldI C dX12_aFact_155 e102 ?_
                      refine r_istore_n (lv' := [(3, .int t101), (0, .ref v0), (1, .int t12), (2, .int t56)]) C dX12_aFact_156 (by decide) rfl rfl ?_
                      refine r_aload_n C dX12_aFact_157 rfl ?_
                      obtain ⟨t103, e104, hf1⟩ := ob hf1
                      refine r_getR C fk_X12_17 rfl dX12_aFact_158 e104 ?_
                      refine r_sipush (v := 180) C dX12_aFact_161 (by decide) ?_
                      refine r_iload_n C dX12_aFact_164 rfl ?_
                      refine r_iadd C dX12_aFact_165 ?_
                      refine r_aload_n C dX12_aFact_166 rfl ?_
                      obtain ⟨u106, e105, hf1⟩ := ob hf1
                      obtain ⟨t107, e108, hf1⟩ := ob hf1
                      refine r_cV (ci := 12) (rest := [.int ((180 : Int32) + t101), .ref t103]) (st2 := [.long t107, .int ((180 : Int32) + t101), .ref t103]) C (s_X12_nameHere e108) mk_X12_nameHere rfl (ck_k e105) (by decide) im_X12_nameHere sl_X12_nameHere lk_X12_193 rfl rfl rfl dX12_aFact_167 (Nat.le_of_ble_eq_true rfl) ⟨Nat.le_of_ble_eq_true rfl, Nat.le_of_ble_eq_true rfl⟩ ⟨Nat.le_of_ble_eq_true rfl, Nat.le_of_ble_eq_true rfl⟩ ?_
                      obtain ⟨h109, e110, hf1⟩ := ob hf1
                      refine r_stJ C dX12_aFact_170 e110 ?_
                      refine r_aload_n C dX12_aFact_171 rfl ?_
                      obtain ⟨t111, e112, hf1⟩ := ob hf1
                      refine r_getR C fk_X12_7 rfl dX12_aFact_172 e112 ?_
                      refine r_sipush (v := 1608) C dX12_aFact_175 (by decide) ?_
                      refine r_iload_n C dX12_aFact_178 rfl ?_
                      refine r_iadd C dX12_aFact_179 ?_
                      refine r_iload_n C dX12_aFact_180 rfl ?_
                      obtain ⟨h113, e114, hf1⟩ := ob hf1
                      refine r_stI C dX12_aFact_181 e114 ?_
                      refine r_aload_n C dX12_aFact_182 rfl ?_
                      obtain ⟨t115, e116, hf1⟩ := ob hf1
                      refine r_getR C fk_X12_7 rfl dX12_aFact_183 e116 ?_
                      refine r_sipush (v := 1632) C dX12_aFact_186 (by decide) ?_
                      refine r_iload_n C dX12_aFact_189 rfl ?_
                      refine r_iadd C dX12_aFact_190 ?_
                      refine r_iconst (v := 1) C dX12_aFact_191 (by decide) ?_
                      obtain ⟨h117, e118, hf1⟩ := ob hf1
                      refine r_stI C dX12_aFact_192 e118 ?_
                      refine r_aload_n C dX12_aFact_193 rfl ?_
                      obtain ⟨t119, e120, hf1⟩ := ob hf1
                      refine r_getR C fk_X12_7 rfl dX12_aFact_194 e120 ?_
                      refine r_sipush (v := 1601) C dX12_aFact_197 (by decide) ?_
                      refine r_dup2 C dX12_aFact_200 rfl rfl ?_
                      obtain ⟨t121, e122, hf1⟩ := ob hf1
                      refine r_ldI C dX12_aFact_201 e122 ?_
                      refine r_iconst (v := 1) C dX12_aFact_202 (by decide) ?_
                      refine r_iadd C dX12_aFact_203 ?_
                      obtain ⟨h123, e124, hf1⟩ := ob hf1
                      refine r_stI C dX12_aFact_204 e124 ?_
                      obtain ⟨t125, e126, hf1⟩ := ob hf1
                      refine r_iinc (lv' := [(2, .int t125), (3, .int t101), (0, .ref v0), (1, .int t12)]) C dX12_aFact_205 rfl e126 (by decide) rfl ?_
                      refine r_aload_n C dX12_aFact_208 rfl ?_
                      obtain ⟨u128, e127, hf1⟩ := ob hf1
                      obtain ⟨h129, e130, hf1⟩ := ob hf1
                      refine r_cV (ci := 12) (rest := []) (st2 := []) C (s_X12_ahead e130) mk_X12_ahead rfl (ck_k e127) (by decide) im_X12_ahead sl_X12_ahead lk_X12_180 rfl rfl rfl dX12_aFact_209 (Nat.le_of_ble_eq_true rfl) ⟨Nat.le_of_ble_eq_true rfl, Nat.le_of_ble_eq_true rfl⟩ ⟨Nat.le_of_ble_eq_true rfl, Nat.le_of_ble_eq_true rfl⟩ ?_
                      refine r_aload_n C dX12_aFact_212 rfl ?_
                      obtain ⟨t131, e132, hf1⟩ := ob hf1
                      refine r_getI C fk_X12_149 rfl dX12_aFact_213 e132 ?_
                      refine r_iconst (v := 3) C dX12_aFact_216 (by decide) ?_
                      refine r_icmp_ne (tgt := 237) C dX12_aFact_217 (by decide) (fun c133 => ?_) (fun c133 => ?_)
                      · rw [if_neg c133] at hf1
                        refine r_subk [2, 3, 0] (lv' := [(0, .ref v0), (1, .int t12), (2, .int t125)]) rfl ?_
                        exact J237 h129 t125 hf1
                      · rw [if_pos c133] at hf1
                        refine r_aload_n C dX12_aFact_220 rfl ?_
                        refine r_sipush (v := 1632) C dX12_aFact_221 (by decide) ?_
                        refine r_iload_n C dX12_aFact_224 rfl ?_
                        refine r_iadd C dX12_aFact_225 ?_
                        refine r_iconst (v := 1) C dX12_aFact_226 (by decide) ?_
                        refine r_bipush (v := 9) C dX12_aFact_227 (by decide) ?_
                        obtain ⟨u135, e134, hf1⟩ := ob hf1
                        obtain ⟨t136, h137, e138, hf1⟩ := ob2 hf1
                        refine r_cV (ci := 12) (rest := []) (st2 := [.int t136]) C (s_X12_number e138) mk_X12_number rfl (ck_k e134) (by decide) im_X12_number sl_X12_number lk_X12_227 rfl rfl rfl dX12_aFact_229 (Nat.le_of_ble_eq_true rfl) ⟨Nat.le_of_ble_eq_true rfl, Nat.le_of_ble_eq_true rfl⟩ ⟨Nat.le_of_ble_eq_true rfl, Nat.le_of_ble_eq_true rfl⟩ ?_
                        refine r_ifne (tgt := 237) C dX12_aFact_232 (by decide) (fun c139 => ?_) (fun c139 => ?_)
                        · rw [if_neg c139] at hf1
                          refine r_subk [2, 3, 0] (lv' := [(0, .ref v0), (1, .int t12), (2, .int t125)]) rfl ?_
                          exact J237 h137 t125 hf1
                        · rw [if_pos c139] at hf1
                          obtain rfl := so hf1
                          obtain rfl := so (show some (.inr (.inr (.inl h137)) : (aH) ⊕ (aH) ⊕ (aH) ⊕ (Int32 × aH)) = some y55 from hk113)
                          dsimp only at hf0
                          refine r_iconst (v := 0) C dX12_aFact_235 (by decide) ?_
                          obtain rfl := so hf0
                          exact r_zret C dX12_aFact_236 (Or.inl rfl)
                    · rw [if_pos c98] at hf1
                      obtain rfl := so hf1
                      obtain rfl := so (show some (.inr (.inl h57) : (aH) ⊕ (aH) ⊕ (aH) ⊕ (Int32 × aH)) = some y55 from hk113)
                      dsimp only at hf0
                      refine r_aload_n C dX12_aFact_141 rfl ?_
                      refine r_bipush (v := 6) C dX12_aFact_142 (by decide) ?_
                      obtain ⟨u141, e140, hf0⟩ := ob hf0
                      obtain ⟨t142, h143, e144, hf0⟩ := ob2 hf0
                      refine r_cV (ci := 12) (rest := []) (st2 := [.int t142]) C (s_X12_fails e144) mk_X12_fails rfl (ck_k e140) (by decide) im_X12_fails sl_X12_fails lk_X12_186 rfl rfl rfl dX12_aFact_144 (Nat.le_of_ble_eq_true rfl) ⟨Nat.le_of_ble_eq_true rfl, Nat.le_of_ble_eq_true rfl⟩ ⟨Nat.le_of_ble_eq_true rfl, Nat.le_of_ble_eq_true rfl⟩ ?_
                      obtain ⟨t145, e146, hf0⟩ := ob hf0
                      obtain ⟨rfl, e146z⟩ := rZ_k e146
                      obtain rfl := so hf0
                      exact r_zret C dX12_aFact_147 e146z
                  · rw [if_pos c97] at hf1
                    obtain rfl := so hf1
                    obtain rfl := so (show some (.inl h57 : (aH) ⊕ (aH) ⊕ (aH) ⊕ (Int32 × aH)) = some y55 from hk113)
                    dsimp only at hf0
                    refine r_aload_n C dX12_aFact_129 rfl ?_
                    refine r_iconst (v := 3) C dX12_aFact_130 (by decide) ?_
                    obtain ⟨u148, e147, hf0⟩ := ob hf0
                    obtain ⟨t149, h150, e151, hf0⟩ := ob2 hf0
                    refine r_cV (ci := 12) (rest := []) (st2 := [.int t149]) C (s_X12_fails e151) mk_X12_fails rfl (ck_k e147) (by decide) im_X12_fails sl_X12_fails lk_X12_186 rfl rfl rfl dX12_aFact_131 (Nat.le_of_ble_eq_true rfl) ⟨Nat.le_of_ble_eq_true rfl, Nat.le_of_ble_eq_true rfl⟩ ⟨Nat.le_of_ble_eq_true rfl, Nat.le_of_ble_eq_true rfl⟩ ?_
                    obtain ⟨t152, e153, hf0⟩ := ob hf0
                    obtain ⟨rfl, e153z⟩ := rZ_k e153
                    obtain rfl := so hf0
                    exact r_zret C dX12_aFact_134 e153z
            refine r_subk [2, 1, 0] (lv' := [(0, .ref v0), (1, .int t12), (2, .int (0 : Int32))]) rfl ?_
            exact L113 wN (0 : Int32) h53 hl113
          · rw [if_pos c46] at hf0
            refine r_aload_n C dX12_aFact_87 rfl ?_
            refine r_iconst (v := 2) C dX12_aFact_88 (by decide) ?_
            obtain ⟨u155, e154, hf0⟩ := ob hf0
            obtain ⟨t156, h157, e158, hf0⟩ := ob2 hf0
            refine r_cV (ci := 12) (rest := []) (st2 := [.int t156]) C (s_X12_fails e158) mk_X12_fails rfl (ck_k e154) (by decide) im_X12_fails sl_X12_fails lk_X12_186 rfl rfl rfl dX12_aFact_89 (Nat.le_of_ble_eq_true rfl) ⟨Nat.le_of_ble_eq_true rfl, Nat.le_of_ble_eq_true rfl⟩ ⟨Nat.le_of_ble_eq_true rfl, Nat.le_of_ble_eq_true rfl⟩ ?_
            obtain ⟨t159, e160, hf0⟩ := ob hf0
            obtain ⟨rfl, e160z⟩ := rZ_k e160
            obtain rfl := so hf0
            exact r_zret C dX12_aFact_92 e160z
        · rw [if_pos c41] at hf0
          refine r_iconst (v := 0) C dX12_aFact_76 (by decide) ?_
          obtain rfl := so hf0
          exact r_zret C dX12_aFact_77 (Or.inl rfl)
      · rw [if_pos c29] at hf0
        refine r_iconst (v := 0) C dX12_aFact_52 (by decide) ?_
        obtain rfl := so hf0
        exact r_zret C dX12_aFact_53 (Or.inl rfl)
    · rw [if_neg c19] at hf0
      refine r_aload_n C dX12_aFact_32 rfl ?_
      refine r_bipush (v := 7) C dX12_aFact_33 (by decide) ?_
      obtain ⟨u162, e161, hf0⟩ := ob hf0
      obtain ⟨t163, h164, e165, hf0⟩ := ob2 hf0
      refine r_cV (ci := 12) (rest := []) (st2 := [.int t163]) C (s_X12_fails e165) mk_X12_fails rfl (ck_k e161) (by decide) im_X12_fails sl_X12_fails lk_X12_186 rfl rfl rfl dX12_aFact_35 (Nat.le_of_ble_eq_true rfl) ⟨Nat.le_of_ble_eq_true rfl, Nat.le_of_ble_eq_true rfl⟩ ⟨Nat.le_of_ble_eq_true rfl, Nat.le_of_ble_eq_true rfl⟩ ?_
      obtain ⟨t166, e167, hf0⟩ := ob hf0
      obtain ⟨rfl, e167z⟩ := rZ_k e167
      obtain rfl := so hf0
      exact r_zret C dX12_aFact_38 e167z
  · rw [if_pos c14] at hf0
    refine r_aload_n C dX12_aFact_14 rfl ?_
    refine r_bipush (v := 6) C dX12_aFact_15 (by decide) ?_
    obtain ⟨u169, e168, hf0⟩ := ob hf0
    obtain ⟨t170, h171, e172, hf0⟩ := ob2 hf0
    refine r_cV (ci := 12) (rest := []) (st2 := [.int t170]) C (s_X12_fails e172) mk_X12_fails rfl (ck_k e168) (by decide) im_X12_fails sl_X12_fails lk_X12_186 rfl rfl rfl dX12_aFact_17 (Nat.le_of_ble_eq_true rfl) ⟨Nat.le_of_ble_eq_true rfl, Nat.le_of_ble_eq_true rfl⟩ ⟨Nat.le_of_ble_eq_true rfl, Nat.le_of_ble_eq_true rfl⟩ ?_
    obtain ⟨t173, e174, hf0⟩ := ob hf0
    obtain ⟨rfl, e174z⟩ := rZ_k e174
    obtain rfl := so hf0
    exact r_zret C dX12_aFact_20 e174z
