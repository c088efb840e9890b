def f_X12_best (h : aH) (v0 : Nat) (v1 : Int32) : Option (Int32 × aH) := (ck h 12 v0).bind fun _ => (f_X12_isWitness h v0 v1).bind fun t1 => if t1 = 0 then (ck h 12 v0).bind fun _ => bd2 (f_X12_refuse h v0 (1 : Int32)) fun t9 h10 => some (t9, h10) else (ck h 12 v0).bind fun _ => (f_X12_fitsAll h v0).bind fun h2 => (ck h2 12 v0).bind fun _ => bd2 (f_X12_bestOf h2 v0 v1) fun t3 h4 => if t3 = (-1 : Int32) then (ck h4 12 v0).bind fun _ => bd2 (f_X12_refuse h4 v0 (6 : Int32)) fun t7 h8 => some (t7, h8) else (ck h4 12 v0).bind fun _ => bd2 (f_X12_gives h4 v0 t3) fun t5 h6 => some (t5, h6)
theorem s_X12_best {h : aH} {v0 : Nat} {v1 : Int32} {out : Int32 × aH} (hf0 : f_X12_best h v0 v1 = some out) : EV 7 yX12_best cX12_best 3 (some .int) h [.ref v0, .int v1] (some (.int out.1)) out.2 0 0 := by
  refine EV.of (own := RX12) (lv0 := [(0, .ref v0), (1, .int v1)]) (by decide +kernel) rfl rfl (Nat.le_of_ble_eq_true rfl) ?_
  intro p l e s m args below meth c D cA B Hb C hin
  unfold f_X12_best at hf0
  refine r_aload_n C dX12_best_0 rfl ?_
  refine r_iload_n C dX12_best_1 rfl ?_
  obtain ⟨u2, e1, hf0⟩ := ob hf0
  obtain ⟨t3, e4, hf0⟩ := ob hf0
  refine r_cV (ci := 12) (rest := []) (st2 := [.int t3]) C (s_X12_isWitness e4) mk_X12_isWitness rfl (ck_k e1) (by decide) im_X12_isWitness sl_X12_isWitness lk_X12_340 rfl rfl rfl dX12_best_2 (Nat.le_of_ble_eq_true rfl) ⟨Nat.le_of_ble_eq_true rfl, Nat.le_of_ble_eq_true rfl⟩ ⟨Nat.le_of_ble_eq_true rfl, Nat.le_of_ble_eq_true rfl⟩ ?_
  refine r_ifne (tgt := 14) C dX12_best_5 (by decide) (fun c5 => ?_) (fun c5 => ?_)
  · rw [if_neg c5] at hf0
    refine r_aload_n C dX12_best_14 rfl ?_
    obtain ⟨u7, e6, hf0⟩ := ob hf0
    obtain ⟨h8, e9, hf0⟩ := ob hf0
    refine r_cV (ci := 12) (rest := []) (st2 := []) C (s_X12_fitsAll e9) mk_X12_fitsAll rfl (ck_k e6) (by decide) im_X12_fitsAll sl_X12_fitsAll lk_X12_388 rfl rfl rfl dX12_best_15 (Nat.le_of_ble_eq_true rfl) ⟨Nat.le_of_ble_eq_true rfl, Nat.le_of_ble_eq_true rfl⟩ ⟨Nat.le_of_ble_eq_true rfl, Nat.le_of_ble_eq_true rfl⟩ ?_
    refine r_aload_n C dX12_best_18 rfl ?_
    refine r_iload_n C dX12_best_19 rfl ?_
    obtain ⟨u11, e10, hf0⟩ := ob hf0
    obtain ⟨t12, h13, e14, hf0⟩ := ob2 hf0
    refine r_cV (ci := 12) (rest := []) (st2 := [.int t12]) C (s_X12_bestOf e14) mk_X12_bestOf rfl (ck_k e10) (by decide) im_X12_bestOf sl_X12_bestOf lk_X12_430 rfl rfl rfl dX12_best_20 (Nat.le_of_ble_eq_true rfl) ⟨Nat.le_of_ble_eq_true rfl, Nat.le_of_ble_eq_true rfl⟩ ⟨Nat.le_of_ble_eq_true rfl, Nat.le_of_ble_eq_true rfl⟩ ?_
    refine r_istore_n (lv' := [(2, .int t12), (0, .ref v0), (1, .int v1)]) C dX12_best_23 (by decide) rfl rfl ?_
    refine r_iload_n C dX12_best_24 rfl ?_
    refine r_iconst (v := -1) C dX12_best_25 (by decide) ?_
    refine r_icmp_ne (tgt := 38) C dX12_best_26 (by decide) (fun c15 => ?_) (fun c15 => ?_)
    · rw [if_neg c15] at hf0
      refine r_aload_n C dX12_best_38 rfl ?_
      refine r_iload_n C dX12_best_39 rfl ?_
      obtain ⟨u17, e16, hf0⟩ := ob hf0
      obtain ⟨t18, h19, e20, hf0⟩ := ob2 hf0
      refine r_cV (ci := 12) (rest := []) (st2 := [.int t18]) C (s_X12_gives e20) mk_X12_gives rfl (ck_k e16) (by decide) im_X12_gives sl_X12_gives lk_X12_200 rfl rfl rfl dX12_best_40 (Nat.le_of_ble_eq_true rfl) ⟨Nat.le_of_ble_eq_true rfl, Nat.le_of_ble_eq_true rfl⟩ ⟨Nat.le_of_ble_eq_true rfl, Nat.le_of_ble_eq_true rfl⟩ ?_
      obtain rfl := so hf0
      exact r_iret C dX12_best_43
    · rw [if_pos c15] at hf0
      refine r_aload_n C dX12_best_29 rfl ?_
      refine r_bipush (v := 6) C dX12_best_30 (by decide) ?_
      obtain ⟨u22, e21, hf0⟩ := ob hf0
      obtain ⟨t23, h24, e25, hf0⟩ := ob2 hf0
      refine r_cV (ci := 12) (rest := []) (st2 := [.int t23]) C (s_X12_refuse e25) mk_X12_refuse rfl (ck_k e21) (by decide) im_X12_refuse sl_X12_refuse lk_X12_197 rfl rfl rfl dX12_best_32 (Nat.le_of_ble_eq_true rfl) ⟨Nat.le_of_ble_eq_true rfl, Nat.le_of_ble_eq_true rfl⟩ ⟨Nat.le_of_ble_eq_true rfl, Nat.le_of_ble_eq_true rfl⟩ ?_
      refine r_goto (tgt := 43) C dX12_best_35 (by decide) ?_
      obtain rfl := so hf0
      exact r_iret C dX12_best_43
  · rw [if_pos c5] at hf0
    refine r_aload_n C dX12_best_8 rfl ?_
    refine r_iconst (v := 1) C dX12_best_9 (by decide) ?_
    obtain ⟨u27, e26, hf0⟩ := ob hf0
    obtain ⟨t28, h29, e30, hf0⟩ := ob2 hf0
    refine r_cV (ci := 12) (rest := []) (st2 := [.int t28]) C (s_X12_refuse e30) mk_X12_refuse rfl (ck_k e26) (by decide) im_X12_refuse sl_X12_refuse lk_X12_197 rfl rfl rfl dX12_best_10 (Nat.le_of_ble_eq_true rfl) ⟨Nat.le_of_ble_eq_true rfl, Nat.le_of_ble_eq_true rfl⟩ ⟨Nat.le_of_ble_eq_true rfl, Nat.le_of_ble_eq_true rfl⟩ ?_
    obtain rfl := so hf0
    exact r_iret C dX12_best_13
def f_X12_isAsked (h : aH) (v0 : Nat) (v1 : Int32) (v2 : Int32) : Option (Int32) := if v2 = (-1 : Int32) then some (1 : Int32) else if v2 = v1 then some (1 : Int32) else some (0 : Int32)
theorem s_X12_isAsked {h : aH} {v0 : Nat} {v1 : Int32} {v2 : Int32} {out : Int32} (hf0 : f_X12_isAsked h v0 v1 v2 = some out) : EV 0 yX12_isAsked cX12_isAsked 3 (some .boolean) h [.ref v0, .int v1, .int v2] (some (.int out)) h 0 0 := by
  refine EV.of (own := RX12) (lv0 := [(0, .ref v0), (1, .int v1), (2, .int v2)]) (by decide +kernel) rfl rfl (Nat.le_of_ble_eq_true rfl) ?_
  intro p l e s m args below meth c D cA B Hb C hin
  unfold f_X12_isAsked at hf0
  refine r_iload_n C dX12_isAsked_0 rfl ?_
  refine r_iconst (v := -1) C dX12_isAsked_1 (by decide) ?_
  refine r_icmp_eq (tgt := 10) C dX12_isAsked_2 (by decide) (fun c1 => ?_) (fun c1 => ?_)
  · rw [if_pos c1] at hf0
    refine r_iconst (v := 1) C dX12_isAsked_10 (by decide) ?_
    refine r_goto (tgt := 15) C dX12_isAsked_11 (by decide) ?_
    obtain rfl := so hf0
    exact r_zret C dX12_isAsked_15 (Or.inr rfl)
  · rw [if_neg c1] at hf0
    refine r_iload_n C dX12_isAsked_5 rfl ?_
    refine r_iload_n C dX12_isAsked_6 rfl ?_
    refine r_icmp_ne (tgt := 14) C dX12_isAsked_7 (by decide) (fun c2 => ?_) (fun c2 => ?_)
    · rw [if_neg c2] at hf0
      refine r_iconst (v := 0) C dX12_isAsked_14 (by decide) ?_
      obtain rfl := so hf0
      exact r_zret C dX12_isAsked_15 (Or.inl rfl)
    · rw [if_pos c2] at hf0
      refine r_iconst (v := 1) C dX12_isAsked_10 (by decide) ?_
      refine r_goto (tgt := 15) C dX12_isAsked_11 (by decide) ?_
      obtain rfl := so hf0
      exact r_zret C dX12_isAsked_15 (Or.inr rfl)
def f_X12_oneIs_j43 (h : aH) (v0 : Nat) (v1 : Int32) (v2 : Int32) (v3 : Int32) (v4 : Int32) (v5 : Int32) : Option ((Int32 × aH) ⊕ ((aH) ⊕ (aH))) := (some (v5 + (1 : Int32))).bind fun t1 => some (.inl (t1, h))
def f_X12_oneIs_b3 (v0 : Nat) (v1 : Int32) (v2 : Int32) (v3 : Int32) (v4 : Int32) (v5 : Int32) (h : aH) : Option ((Int32 × aH) ⊕ ((aH) ⊕ (aH))) := (gR h 12 v0 0).bind fun t2 => (lI h t2 (3 : Int32)).bind fun t3 => if ((2 : Int32) * t3) ≤ v5 then some (.inr (.inr h)) else (ck h 12 v0).bind fun _ => bd2 (f_X12_answered h v0 v1 v3 v4 v5) fun t4 h5 => if t4 ≤ 0 then f_X12_oneIs_j43 h5 v0 v1 v2 v3 v4 v5 else (ck h5 12 v0).bind fun _ => (f_X12_sureAt h5 v0 (v1 + (1 : Int32)) v2).bind fun t6 => if t6 = (-1 : Int32) then some (.inr (.inl h5)) else f_X12_oneIs_j43 h5 v0 v1 v2 v3 v4 v5
def f_X12_oneIs_l3 (v0 : Nat) (v1 : Int32) (v2 : Int32) (v3 : Int32) (v4 : Int32) (v5 : Int32) (h : aH) : Option ((aH) ⊕ (aH)) := whileL wN (fun q : Int32 × aH => f_X12_oneIs_b3 v0 v1 v2 v3 v4 q.1 q.2) (v5, h)
def f_X12_oneIs (h : aH) (v0 : Nat) (v1 : Int32) (v2 : Int32) (v3 : Int32) (v4 : Int32) : Option (Int32 × aH) := (f_X12_oneIs_l3 v0 v1 v2 v3 v4 (0 : Int32) h).bind fun e => match e with | .inl h7 => some ((0 : Int32), h7) | .inr h8 => some ((1 : Int32), h8)
theorem s_X12_oneIs {h : aH} {v0 : Nat} {v1 : Int32} {v2 : Int32} {v3 : Int32} {v4 : Int32} {out : Int32 × aH} (hf0 : f_X12_oneIs h v0 v1 v2 v3 v4 = some out) : EV 5 yX12_oneIs cX12_oneIs 6 (some .boolean) h [.ref v0, .int v1, .int v2, .int v3, .int v4] (some (.int out.1)) out.2 0 0 := by
  refine EV.of (own := RX12) (lv0 := [(0, .ref v0), (1, .int v1), (2, .int v2), (3, .int v3), (4, .int v4)]) (by decide +kernel) rfl rfl (Nat.le_of_ble_eq_true rfl) ?_
  intro p l e s m args below meth c D cA B Hb C hin
  unfold f_X12_oneIs at hf0
  refine r_iconst (v := 0) C dX12_oneIs_0 (by decide) ?_
  refine r_istore (lv' := [(5, .int (0 : Int32)), (0, .ref v0), (1, .int v1), (2, .int v2), (3, .int v3), (4, .int v4)]) C dX12_oneIs_1 (by decide) rfl rfl ?_
  obtain ⟨y1, hl3, hf0⟩ := ob hf0
  have L3 : ∀ (n : Nat) (t2 : Int32) (h3 : aH), whileL n (fun q : Int32 × aH => f_X12_oneIs_b3 v0 v1 v2 v3 v4 q.1 q.2) (t2, h3) = some y1 → gW p l e (rmO 5 0 0) s m args below meth c (MQ below (eQ D cA B Hb out.2 (some (.int out.1))) args s 0 0 (fun q => B ≤ q)) D cA B Hb 6 h3 3 [(0, .ref v0), (1, .int v1), (2, .int v2), (3, .int v3), (4, .int v4), (5, .int t2)] [] 0 0 := by
    intro n
    induction n with
    | zero => intro t2 h3 hz; cases hz
    | succ n ih3 =>
      intro t2 h3 hz
      obtain ⟨x3, hf1, hk3⟩ := wl hz
      replace hf1 : f_X12_oneIs_b3 v0 v1 v2 v3 v4 t2 h3 = some x3 := hf1
      unfold f_X12_oneIs_b3 at hf1
      have J43 : ∀ (h4 : aH) (t5 : Int32), f_X12_oneIs_j43 h4 v0 v1 v2 v3 v4 t5 = some x3 → gW p l e (rmO 5 0 0) s m args below meth c (MQ below (eQ D cA B Hb out.2 (some (.int out.1))) args s 0 0 (fun q => B ≤ q)) D cA B Hb 6 h4 43 [(0, .ref v0), (1, .int v1), (2, .int v2), (3, .int v3), (4, .int v4), (5, .int t5)] [] 0 0 := by
        intro h4 t5 hf1
        unfold f_X12_oneIs_j43 at hf1
        obtain ⟨t6, e7, hf1⟩ := ob hf1
        refine r_iinc (lv' := [(5, .int t6), (0, .ref v0), (1, .int v1), (2, .int v2), (3, .int v3), (4, .int v4)]) C dX12_oneIs_43 rfl e7 (by decide) rfl ?_
        refine r_goto (tgt := 3) C dX12_oneIs_46 (by decide) ?_
        obtain rfl := so hf1
        refine r_subk [1, 2, 3, 4, 5, 0] (lv' := [(0, .ref v0), (1, .int v1), (2, .int v2), (3, .int v3), (4, .int v4), (5, .int t6)]) rfl ?_
        exact ih3 t6 h4 hk3
      refine r_iload C dX12_oneIs_3 rfl ?_
      refine r_iconst (v := 2) C dX12_oneIs_5 (by decide) ?_
      refine r_aload_n C dX12_oneIs_6 rfl ?_
      obtain ⟨t8, e9, hf1⟩ := ob hf1
      refine r_getR C fk_X12_7 rfl dX12_oneIs_7 e9 ?_
      refine r_iconst (v := 3) C dX12_oneIs_10 (by decide) ?_
      obtain ⟨t10, e11, hf1⟩ := ob hf1
      refine r_ldI C dX12_oneIs_11 e11 ?_
      refine r_imul C dX12_oneIs_12 ?_
      refine r_icmp_ge (tgt := 49) C dX12_oneIs_13 (by decide) (fun c12 => ?_) (fun c12 => ?_)
      · rw [if_pos c12] at hf1
        obtain rfl := so hf1
        obtain rfl := so (show some (.inr h3 : (aH) ⊕ (aH)) = some y1 from hk3)
        dsimp only at hf0
        refine r_iconst (v := 1) C dX12_oneIs_49 (by decide) ?_
        obtain rfl := so hf0
        exact r_zret C dX12_oneIs_50 (Or.inr rfl)
      · rw [if_neg c12] at hf1
        refine r_aload_n C dX12_oneIs_16 rfl ?_
        refine r_iload_n C dX12_oneIs_17 rfl ?_
        refine r_iload_n C dX12_oneIs_18 rfl ?_
        refine r_iload C dX12_oneIs_19 rfl ?_
        refine r_iload C dX12_oneIs_21 rfl ?_
        obtain ⟨u14, e13, hf1⟩ := ob hf1
        obtain ⟨t15, h16, e17, hf1⟩ := ob2 hf1
        refine r_cV (ci := 12) (rest := []) (st2 := [.int t15]) C (s_X12_answered e17) mk_X12_answered rfl (ck_k e13) (by decide) im_X12_answered sl_X12_answered lk_X12_421 rfl rfl rfl dX12_oneIs_23 (Nat.le_of_ble_eq_true rfl) ⟨Nat.le_of_ble_eq_true rfl, Nat.le_of_ble_eq_true rfl⟩ ⟨Nat.le_of_ble_eq_true rfl, Nat.le_of_ble_eq_true rfl⟩ ?_
        refine r_ifle (tgt := 43) C dX12_oneIs_26 (by decide) (fun c18 => ?_) (fun c18 => ?_)
        · rw [if_pos c18] at hf1
          exact J43 h16 t2 hf1
        · rw [if_neg c18] at hf1
          refine r_aload_n C dX12_oneIs_29 rfl ?_
          refine r_iload_n C dX12_oneIs_30 rfl ?_
          refine r_iconst (v := 1) C dX12_oneIs_31 (by decide) ?_
          refine r_iadd C dX12_oneIs_32 ?_
          refine r_iload_n C dX12_oneIs_33 rfl ?_
          obtain ⟨u20, e19, hf1⟩ := ob hf1
          obtain ⟨t21, e22, hf1⟩ := ob hf1
          refine r_cV (ci := 12) (rest := []) (st2 := [.int t21]) C (s_X12_sureAt e22) mk_X12_sureAt rfl (ck_k e19) (by decide) im_X12_sureAt sl_X12_sureAt lk_X12_394 rfl rfl rfl dX12_oneIs_34 (Nat.le_of_ble_eq_true rfl) ⟨Nat.le_of_ble_eq_true rfl, Nat.le_of_ble_eq_true rfl⟩ ⟨Nat.le_of_ble_eq_true rfl, Nat.le_of_ble_eq_true rfl⟩ ?_
          refine r_iconst (v := -1) C dX12_oneIs_37 (by decide) ?_
          refine r_icmp_ne (tgt := 43) C dX12_oneIs_38 (by decide) (fun c23 => ?_) (fun c23 => ?_)
          · rw [if_neg c23] at hf1
            exact J43 h16 t2 hf1
          · rw [if_pos c23] at hf1
            obtain rfl := so hf1
            obtain rfl := so (show some (.inl h16 : (aH) ⊕ (aH)) = some y1 from hk3)
            dsimp only at hf0
            refine r_iconst (v := 0) C dX12_oneIs_41 (by decide) ?_
            obtain rfl := so hf0
            exact r_zret C dX12_oneIs_42 (Or.inl rfl)
  refine r_subk [1, 2, 3, 4, 5, 0] (lv' := [(0, .ref v0), (1, .int v1), (2, .int v2), (3, .int v3), (4, .int v4), (5, .int (0 : Int32))]) rfl ?_
  exact L3 wN (0 : Int32) h hl3
def f_X12_byOne_j63 (h : aH) (v0 : Nat) (v1 : Int32) (v2 : Int32) (v3 : Int32) (v4 : Int32) (v5 : Int32) : Option ((Int32 × aH) ⊕ ((aH) ⊕ (aH))) := (some (v5 + (1 : Int32))).bind fun t3 => some (.inl (t3, h))
def f_X12_byOne_b17 (v0 : Nat) (v1 : Int32) (v2 : Int32) (v3 : Int32) (v4 : Int32) (v5 : Int32) (h : aH) : Option ((Int32 × aH) ⊕ ((aH) ⊕ (aH))) := (gR h 12 v0 0).bind fun t4 => (lI h t4 (3 : Int32)).bind fun t5 => if t5 ≤ v5 then some (.inr (.inr h)) else (ck h 12 v0).bind fun _ => (f_X12_isAsked h v0 v4 v3).bind fun t6 => if t6 = 0 then f_X12_byOne_j63 h v0 v1 v2 v3 v4 v5 else (gR h 12 v0 35).bind fun t7 => (lZ h t7 v5).bind fun t8 => if t8 = 0 then (ck h 12 v0).bind fun _ => bd2 (f_X12_oneIs h v0 v1 v2 v4 v5) fun t9 h10 => if t9 = 0 then f_X12_byOne_j63 h10 v0 v1 v2 v3 v4 v5 else some (.inr (.inl h10)) else f_X12_byOne_j63 h v0 v1 v2 v3 v4 v5
def f_X12_byOne_l17 (v0 : Nat) (v1 : Int32) (v2 : Int32) (v3 : Int32) (v4 : Int32) (v5 : Int32) (h : aH) : Option ((aH) ⊕ (aH)) := whileL wN (fun q : Int32 × aH => f_X12_byOne_b17 v0 v1 v2 v3 v4 q.1 q.2) (v5, h)
def f_X12_byOne_b3 (v0 : Nat) (v1 : Int32) (v2 : Int32) (v3 : Int32) (v4 : Int32) (h : aH) : Option ((Int32 × aH) ⊕ ((aH) ⊕ (aH))) := (gR h 12 v0 0).bind fun t1 => (lI h t1 (4 : Int32)).bind fun t2 => if t2 ≤ v4 then some (.inr (.inr h)) else (f_X12_byOne_l17 v0 v1 v2 v3 v4 (0 : Int32) h).bind fun e => match e with | .inl h11 => some (.inr (.inl h11)) | .inr h12 => (some (v4 + (1 : Int32))).bind fun t13 => some (.inl (t13, h12))
def f_X12_byOne_l3 (v0 : Nat) (v1 : Int32) (v2 : Int32) (v3 : Int32) (v4 : Int32) (h : aH) : Option ((aH) ⊕ (aH)) := whileL wN (fun q : Int32 × aH => f_X12_byOne_b3 v0 v1 v2 v3 q.1 q.2) (v4, h)
def f_X12_byOne (h : aH) (v0 : Nat) (v1 : Int32) (v2 : Int32) (v3 : Int32) : Option (Int32 × aH) := (f_X12_byOne_l3 v0 v1 v2 v3 (0 : Int32) h).bind fun e => match e with | .inl h14 => some ((1 : Int32), h14) | .inr h15 => some ((0 : Int32), h15)
theorem s_X12_byOne {h : aH} {v0 : Nat} {v1 : Int32} {v2 : Int32} {v3 : Int32} {out : Int32 × aH} (hf0 : f_X12_byOne h v0 v1 v2 v3 = some out) : EV 6 yX12_byOne cX12_byOne 6 (some .boolean) h [.ref v0, .int v1, .int v2, .int v3] (some (.int out.1)) out.2 0 0 := by
  refine EV.of (own := RX12) (lv0 := [(0, .ref v0), (1, .int v1), (2, .int v2), (3, .int v3)]) (by decide +kernel) rfl rfl (Nat.le_of_ble_eq_true rfl) ?_
  intro p l e s m args below meth c D cA B Hb C hin
  unfold f_X12_byOne at hf0
  refine r_iconst (v := 0) C dX12_byOne_0 (by decide) ?_
  refine r_istore (lv' := [(4, .int (0 : Int32)), (0, .ref v0), (1, .int v1), (2, .int v2), (3, .int v3)]) C dX12_byOne_1 (by decide) rfl rfl ?_
  obtain ⟨y1, hl3, hf0⟩ := ob hf0
  have L3 : ∀ (n : Nat) (t2 : Int32) (h3 : aH), whileL n (fun q : Int32 × aH => f_X12_byOne_b3 v0 v1 v2 v3 q.1 q.2) (t2, h3) = some y1 → gW p l e (rmO 6 0 0) s m args below meth c (MQ below (eQ D cA B Hb out.2 (some (.int out.1))) args s 0 0 (fun q => B ≤ q)) D cA B Hb 6 h3 3 [(0, .ref v0), (1, .int v1), (2, .int v2), (3, .int v3), (4, .int t2)] [] 0 0 := by
    intro n
    induction n with
    | zero => intro t2 h3 hz; cases hz
    | succ n ih3 =>
      intro t2 h3 hz
      obtain ⟨x3, hf1, hk3⟩ := wl hz
      replace hf1 : f_X12_byOne_b3 v0 v1 v2 v3 t2 h3 = some x3 := hf1
      unfold f_X12_byOne_b3 at hf1
      refine r_iload C dX12_byOne_3 rfl ?_
      refine r_aload_n C dX12_byOne_5 rfl ?_
      obtain ⟨t4, e5, hf1⟩ := ob hf1
      refine r_getR C fk_X12_7 rfl dX12_byOne_6 e5 ?_
      refine r_iconst (v := 4) C dX12_byOne_9 (by decide) ?_
      obtain ⟨t6, e7, hf1⟩ := ob hf1
      refine r_ldI C dX12_byOne_10 e7 ?_
      refine r_icmp_ge (tgt := 75) C dX12_byOne_11 (by decide) (fun c8 => ?_) (fun c8 => ?_)
      · rw [if_pos c8] at hf1
        obtain rfl := so hf1
        obtain rfl := so (show some (.inr h3 : (aH) ⊕ (aH)) = some y1 from hk3)
        dsimp only at hf0
        refine r_iconst (v := 0) C dX12_byOne_75 (by decide) ?_
        obtain rfl := so hf0
        exact r_zret C dX12_byOne_76 (Or.inl rfl)
      · rw [if_neg c8] at hf1
        refine r_iconst (v := 0) C dX12_byOne_14 (by decide) ?_
        refine r_istore (lv' := [(5, .int (0 : Int32)), (0, .ref v0), (1, .int v1), (2, .int v2), (3, .int v3), (4, .int t2)]) C dX12_byOne_15 (by decide) rfl rfl ?_
        obtain ⟨y9, hl17, hf1⟩ := ob hf1
        have L17 : ∀ (n : Nat) (t10 : Int32) (h11 : aH), whileL n (fun q : Int32 × aH => f_X12_byOne_b17 v0 v1 v2 v3 t2 q.1 q.2) (t10, h11) = some y9 → gW p l e (rmO 6 0 0) s m args below meth c (MQ below (eQ D cA B Hb out.2 (some (.int out.1))) args s 0 0 (fun q => B ≤ q)) D cA B Hb 6 h11 17 [(0, .ref v0), (1, .int v1), (2, .int v2), (3, .int v3), (4, .int t2), (5, .int t10)] [] 0 0 := by
          intro n
          induction n with
          | zero => intro t10 h11 hz; cases hz
          | succ n ih17 =>
            intro t10 h11 hz
            obtain ⟨x17, hf2, hk17⟩ := wl hz
            replace hf2 : f_X12_byOne_b17 v0 v1 v2 v3 t2 t10 h11 = some x17 := hf2
            unfold f_X12_byOne_b17 at hf2
            have J63 : ∀ (h12 : aH) (t13 : Int32), f_X12_byOne_j63 h12 v0 v1 v2 v3 t2 t13 = some x17 → gW p l e (rmO 6 0 0) s m args below meth c (MQ below (eQ D cA B Hb out.2 (some (.int out.1))) args s 0 0 (fun q => B ≤ q)) D cA B Hb 6 h12 63 [(0, .ref v0), (1, .int v1), (2, .int v2), (3, .int v3), (4, .int t2), (5, .int t13)] [] 0 0 := by
              intro h12 t13 hf2
              unfold f_X12_byOne_j63 at hf2
              obtain ⟨t14, e15, hf2⟩ := ob hf2
              refine r_iinc (lv' := [(5, .int t14), (0, .ref v0), (1, .int v1), (2, .int v2), (3, .int v3), (4, .int t2)]) C dX12_byOne_63 rfl e15 (by decide) rfl ?_
              refine r_goto (tgt := 17) C dX12_byOne_66 (by decide) ?_
              obtain rfl := so hf2
              refine r_subk [1, 2, 3, 4, 5, 0] (lv' := [(0, .ref v0), (1, .int v1), (2, .int v2), (3, .int v3), (4, .int t2), (5, .int t14)]) rfl ?_
              exact ih17 t14 h12 hk17
            refine r_iload C dX12_byOne_17 rfl ?_
            refine r_aload_n C dX12_byOne_19 rfl ?_
            obtain ⟨t16, e17, hf2⟩ := ob hf2
            refine r_getR C fk_X12_7 rfl dX12_byOne_20 e17 ?_
            refine r_iconst (v := 3) C dX12_byOne_23 (by decide) ?_
            obtain ⟨t18, e19, hf2⟩ := ob hf2
            refine r_ldI C dX12_byOne_24 e19 ?_
            refine r_icmp_ge (tgt := 69) C dX12_byOne_25 (by decide) (fun c20 => ?_) (fun c20 => ?_)
            · rw [if_pos c20] at hf2
              obtain rfl := so hf2
              obtain rfl := so (show some (.inr h11 : (aH) ⊕ (aH)) = some y9 from hk17)
              dsimp only at hf1
              obtain ⟨t21, e22, hf1⟩ := ob hf1
              refine r_iinc (lv' := [(4, .int t21), (0, .ref v0), (1, .int v1), (2, .int v2), (3, .int v3), (5, .int t10)]) C dX12_byOne_69 rfl e22 (by decide) rfl ?_
              refine r_goto (tgt := 3) C dX12_byOne_72 (by decide) ?_
              obtain rfl := so hf1
              refine r_subk [1, 2, 3, 4, 0] (lv' := [(0, .ref v0), (1, .int v1), (2, .int v2), (3, .int v3), (4, .int t21)]) rfl ?_
              exact ih3 t21 h11 hk3
            · rw [if_neg c20] at hf2
              refine r_aload_n C dX12_byOne_28 rfl ?_
              refine r_iload C dX12_byOne_29 rfl ?_
              refine r_iload_n C dX12_byOne_31 rfl ?_
              obtain ⟨u24, e23, hf2⟩ := ob hf2
              obtain ⟨t25, e26, hf2⟩ := ob hf2
              refine r_cV (ci := 12) (rest := []) (st2 := [.int t25]) C (s_X12_isAsked e26) mk_X12_isAsked rfl (ck_k e23) (by decide) im_X12_isAsked sl_X12_isAsked lk_X12_433 rfl rfl rfl dX12_byOne_32 (Nat.le_of_ble_eq_true rfl) ⟨Nat.le_of_ble_eq_true rfl, Nat.le_of_ble_eq_true rfl⟩ ⟨Nat.le_of_ble_eq_true rfl, Nat.le_of_ble_eq_true rfl⟩ ?_
              refine r_ifeq (tgt := 63) C dX12_byOne_35 (by decide) (fun c27 => ?_) (fun c27 => ?_)
              · rw [if_pos c27] at hf2
                exact J63 h11 t10 hf2
              · rw [if_neg c27] at hf2
                refine r_aload_n C dX12_byOne_38 rfl ?_
                obtain ⟨t28, e29, hf2⟩ := ob hf2
                refine r_getR C fk_X12_72 rfl dX12_byOne_39 e29 ?_
                refine r_iload C dX12_byOne_42 rfl ?_
                obtain ⟨t30, e31, hf2⟩ := ob hf2
                refine r_ldZ C dX12_byOne_44 e31 ?_
                refine r_ifne (tgt := 63) C dX12_byOne_45 (by decide) (fun c32 => ?_) (fun c32 => ?_)
                · rw [if_neg c32] at hf2
                  exact J63 h11 t10 hf2
                · rw [if_pos c32] at hf2
                  refine r_aload_n C dX12_byOne_48 rfl ?_
                  refine r_iload_n C dX12_byOne_49 rfl ?_
                  refine r_iload_n C dX12_byOne_50 rfl ?_
                  refine r_iload C dX12_byOne_51 rfl ?_
                  refine r_iload C dX12_byOne_53 rfl ?_
                  obtain ⟨u34, e33, hf2⟩ := ob hf2
                  obtain ⟨t35, h36, e37, hf2⟩ := ob2 hf2
                  refine r_cV (ci := 12) (rest := []) (st2 := [.int t35]) C (s_X12_oneIs e37) mk_X12_oneIs rfl (ck_k e33) (by decide) im_X12_oneIs sl_X12_oneIs lk_X12_436 rfl rfl rfl dX12_byOne_55 (Nat.le_of_ble_eq_true rfl) ⟨Nat.le_of_ble_eq_true rfl, Nat.le_of_ble_eq_true rfl⟩ ⟨Nat.le_of_ble_eq_true rfl, Nat.le_of_ble_eq_true rfl⟩ ?_
                  refine r_ifeq (tgt := 63) C dX12_byOne_58 (by decide) (fun c38 => ?_) (fun c38 => ?_)
                  · rw [if_pos c38] at hf2
                    exact J63 h36 t10 hf2
                  · rw [if_neg c38] at hf2
                    obtain rfl := so hf2
                    obtain rfl := so (show some (.inl h36 : (aH) ⊕ (aH)) = some y9 from hk17)
                    dsimp only at hf1
                    obtain rfl := so hf1
                    obtain rfl := so (show some (.inl h36 : (aH) ⊕ (aH)) = some y1 from hk3)
                    dsimp only at hf0
                    refine r_iconst (v := 1) C dX12_byOne_61 (by decide) ?_
                    obtain rfl := so hf0
                    exact r_zret C dX12_byOne_62 (Or.inr rfl)
        refine r_subk [1, 2, 3, 4, 5, 0] (lv' := [(0, .ref v0), (1, .int v1), (2, .int v2), (3, .int v3), (4, .int t2), (5, .int (0 : Int32))]) rfl ?_
        exact L17 wN (0 : Int32) h3 hl17
  refine r_subk [1, 2, 3, 4, 0] (lv' := [(0, .ref v0), (1, .int v1), (2, .int v2), (3, .int v3), (4, .int (0 : Int32))]) rfl ?_
  exact L3 wN (0 : Int32) h hl3
def f_X12_twoAre_j83 (h : aH) (v0 : Nat) (v4 : Int32) (v6 : Int32) : Option (Int32 × aH) := (gR h 12 v0 35).bind fun t1 => (sZ h t1 v4 (0 : Int32)).bind fun h2 => (rZ v6).bind fun t3 => some (t3, h2)
def f_X12_twoAre_j77 (h : aH) (v0 : Nat) (v1 : Int32) (v2 : Int32) (v3 : Int32) (v4 : Int32) (v5 : Int32) (v6 : Int32) (v7 : Int32) : Option ((Int32 × Int32 × aH) ⊕ (Int32 × aH)) := (some (v7 + (1 : Int32))).bind fun t6 => some (.inl (v6, t6, h))
def f_X12_twoAre_j75 (h : aH) (v0 : Nat) (v1 : Int32) (v2 : Int32) (v3 : Int32) (v4 : Int32) (v5 : Int32) (v7 : Int32) (s0 : Int32) : Option ((Int32 × Int32 × aH) ⊕ (Int32 × aH)) := f_X12_twoAre_j77 h v0 v1 v2 v3 v4 v5 s0 v7
def f_X12_twoAre_j70 (h : aH) (v0 : Nat) (v1 : Int32) (v2 : Int32) (v3 : Int32) (v4 : Int32) (v5 : Int32) (v7 : Int32) : Option ((Int32 × Int32 × aH) ⊕ (Int32 × aH)) := f_X12_twoAre_j75 h v0 v1 v2 v3 v4 v5 v7 (1 : Int32)
def f_X12_twoAre_b14 (v0 : Nat) (v1 : Int32) (v2 : Int32) (v3 : Int32) (v4 : Int32) (v5 : Int32) (v6 : Int32) (v7 : Int32) (h : aH) : Option ((Int32 × Int32 × aH) ⊕ (Int32 × aH)) := (gR h 12 v0 0).bind fun t7 => (lI h t7 (3 : Int32)).bind fun t8 => if ((2 : Int32) * t8) ≤ v7 then some (.inr (v6, h)) else if v6 = 0 then some (.inr (v6, h)) else (ck h 12 v0).bind fun _ => bd2 (f_X12_answered h v0 v1 v3 v4 v7) fun t9 h10 => if t9 ≤ 0 then f_X12_twoAre_j77 h10 v0 v1 v2 v3 v4 v5 v6 v7 else (ck h10 12 v0).bind fun _ => (f_X12_sureAt h10 v0 (v1 + (1 : Int32)) v2).bind fun t11 => if t11 = (-1 : Int32) then (ck h10 12 v0).bind fun _ => bd2 (f_X12_byOne h10 v0 (v1 + (1 : Int32)) v2 v5) fun t12 h13 => if t12 = 0 then f_X12_twoAre_j75 h13 v0 v1 v2 v3 v4 v5 v7 (0 : Int32) else f_X12_twoAre_j70 h13 v0 v1 v2 v3 v4 v5 v7 else f_X12_twoAre_j70 h10 v0 v1 v2 v3 v4 v5 v7
def f_X12_twoAre_l14 (v0 : Nat) (v1 : Int32) (v2 : Int32) (v3 : Int32) (v4 : Int32) (v5 : Int32) (v6 : Int32) (v7 : Int32) (h : aH) : Option (Int32 × aH) := whileL wN (fun q : Int32 × Int32 × aH => f_X12_twoAre_b14 v0 v1 v2 v3 v4 v5 q.1 q.2.1 q.2.2) (v6, v7, h)
def f_X12_twoAre (h : aH) (v0 : Nat) (v1 : Int32) (v2 : Int32) (v3 : Int32) (v4 : Int32) (v5 : Int32) : Option (Int32 × aH) := (gR h 12 v0 35).bind fun t4 => (sZ h t4 v4 (1 : Int32)).bind fun h5 => bd2 (f_X12_twoAre_l14 v0 v1 v2 v3 v4 v5 (1 : Int32) (0 : Int32) h5) fun t14 h15 => f_X12_twoAre_j83 h15 v0 v4 t14
theorem s_X12_twoAre {h : aH} {v0 : Nat} {v1 : Int32} {v2 : Int32} {v3 : Int32} {v4 : Int32} {v5 : Int32} {out : Int32 × aH} (hf0 : f_X12_twoAre h v0 v1 v2 v3 v4 v5 = some out) : EV 7 yX12_twoAre cX12_twoAre 8 (some .boolean) h [.ref v0, .int v1, .int v2, .int v3, .int v4, .int v5] (some (.int out.1)) out.2 0 0 := by
  refine EV.of (own := RX12) (lv0 := [(0, .ref v0), (1, .int v1), (2, .int v2), (3, .int v3), (4, .int v4), (5, .int v5)]) (by decide +kernel) rfl rfl (Nat.le_of_ble_eq_true rfl) ?_
  intro p l e s m args below meth c D cA B Hb C hin
  unfold f_X12_twoAre at hf0
  have J83 : ∀ (h1 : aH) (t2 : Nat) (t3 : Int32) (t4 : Int32), f_X12_twoAre_j83 h1 t2 t3 t4 = some out → gW p l e (rmO 7 0 0) s m args below meth c (MQ below (eQ D cA B Hb out.2 (some (.int out.1))) args s 0 0 (fun q => B ≤ q)) D cA B Hb 8 h1 83 [(0, .ref t2), (4, .int t3), (6, .int t4)] [] 0 0 := by
    intro h1 t2 t3 t4 hf0
    unfold f_X12_twoAre_j83 at hf0
    refine r_aload_n C dX12_twoAre_83 rfl ?_
    obtain ⟨t5, e6, hf0⟩ := ob hf0
    refine r_getR C fk_X12_72 rfl dX12_twoAre_84 e6 ?_
    refine r_iload C dX12_twoAre_87 rfl ?_
    refine r_iconst (v := 0) C dX12_twoAre_89 (by decide) ?_
    obtain ⟨h7, e8, hf0⟩ := ob hf0
    refine r_stZ C dX12_twoAre_90 e8 ?_
    refine r_iload C dX12_twoAre_91 rfl ?_
    obtain ⟨t9, e10, hf0⟩ := ob hf0
    obtain ⟨rfl, e10z⟩ := rZ_k e10
    obtain rfl := so hf0
    exact r_zret C dX12_twoAre_93 e10z
  refine r_aload_n C dX12_twoAre_0 rfl ?_
  obtain ⟨t11, e12, hf0⟩ := ob hf0
  refine r_getR C fk_X12_72 rfl dX12_twoAre_1 e12 ?_
  refine r_iload C dX12_twoAre_4 rfl ?_
  refine r_iconst (v := 1) C dX12_twoAre_6 (by decide) ?_
  obtain ⟨h13, e14, hf0⟩ := ob hf0
  refine r_stZ C dX12_twoAre_7 e14 ?_
  refine r_iconst (v := 1) C dX12_twoAre_8 (by decide) ?_
  refine r_istore (lv' := [(6, .int (1 : Int32)), (0, .ref v0), (1, .int v1), (2, .int v2), (3, .int v3), (4, .int v4), (5, .int v5)]) C dX12_twoAre_9 (by decide) rfl rfl ?_
  refine r_iconst (v := 0) C dX12_twoAre_11 (by decide) ?_
  refine r_istore (lv' := [(7, .int (0 : Int32)), (6, .int (1 : Int32)), (0, .ref v0), (1, .int v1), (2, .int v2), (3, .int v3), (4, .int v4), (5, .int v5)]) C dX12_twoAre_12 (by decide) rfl rfl ?_
  obtain ⟨y15, y16, hl14, hf0⟩ := ob2 hf0
  have L14 : ∀ (n : Nat) (t17 : Int32) (t18 : Int32) (h19 : aH), whileL n (fun q : Int32 × Int32 × aH => f_X12_twoAre_b14 v0 v1 v2 v3 v4 v5 q.1 q.2.1 q.2.2) (t17, t18, h19) = some (y15, y16) → gW p l e (rmO 7 0 0) s m args below meth c (MQ below (eQ D cA B Hb out.2 (some (.int out.1))) args s 0 0 (fun q => B ≤ q)) D cA B Hb 8 h19 14 [(0, .ref v0), (1, .int v1), (2, .int v2), (3, .int v3), (4, .int v4), (5, .int v5), (6, .int t17), (7, .int t18)] [] 0 0 := by
    intro n
    induction n with
    | zero => intro t17 t18 h19 hz; cases hz
    | succ n ih14 =>
      intro t17 t18 h19 hz
      obtain ⟨x14, hf1, hk14⟩ := wl hz
      replace hf1 : f_X12_twoAre_b14 v0 v1 v2 v3 v4 v5 t17 t18 h19 = some x14 := hf1
      unfold f_X12_twoAre_b14 at hf1
      have J77 : ∀ (h20 : aH) (t21 : Int32) (t22 : Int32), f_X12_twoAre_j77 h20 v0 v1 v2 v3 v4 v5 t21 t22 = some x14 → gW p l e (rmO 7 0 0) s m args below meth c (MQ below (eQ D cA B Hb out.2 (some (.int out.1))) args s 0 0 (fun q => B ≤ q)) D cA B Hb 8 h20 77 [(0, .ref v0), (1, .int v1), (2, .int v2), (3, .int v3), (4, .int v4), (5, .int v5), (6, .int t21), (7, .int t22)] [] 0 0 := by
        intro h20 t21 t22 hf1
        unfold f_X12_twoAre_j77 at hf1
        obtain ⟨t23, e24, hf1⟩ := ob hf1
        refine r_iinc (lv' := [(7, .int t23), (0, .ref v0), (1, .int v1), (2, .int v2), (3, .int v3), (4, .int v4), (5, .int v5), (6, .int t21)]) C dX12_twoAre_77 rfl e24 (by decide) rfl ?_
        refine r_goto (tgt := 14) C dX12_twoAre_80 (by decide) ?_
        obtain rfl := so hf1
        refine r_subk [1, 2, 3, 4, 5, 6, 7, 0] (lv' := [(0, .ref v0), (1, .int v1), (2, .int v2), (3, .int v3), (4, .int v4), (5, .int v5), (6, .int t21), (7, .int t23)]) rfl ?_
        exact ih14 t21 t23 h20 hk14
      have J75 : ∀ (h25 : aH) (t26 : Int32) (t27 : Int32), f_X12_twoAre_j75 h25 v0 v1 v2 v3 v4 v5 t26 t27 = some x14 → gW p l e (rmO 7 0 0) s m args below meth c (MQ below (eQ D cA B Hb out.2 (some (.int out.1))) args s 0 0 (fun q => B ≤ q)) D cA B Hb 8 h25 75 [(0, .ref v0), (1, .int v1), (2, .int v2), (3, .int v3), (4, .int v4), (5, .int v5), (7, .int t26)] [.int t27] 0 0 := by
        intro h25 t26 t27 hf1
        unfold f_X12_twoAre_j75 at hf1
        refine r_istore (lv' := [(6, .int t27), (0, .ref v0), (1, .int v1), (2, .int v2), (3, .int v3), (4, .int v4), (5, .int v5), (7, .int t26)]) C dX12_twoAre_75 (by decide) rfl rfl ?_
        refine r_subk [1, 2, 3, 4, 5, 6, 0, 7] (lv' := [(0, .ref v0), (1, .int v1), (2, .int v2), (3, .int v3), (4, .int v4), (5, .int v5), (6, .int t27), (7, .int t26)]) rfl ?_
        exact J77 h25 t27 t26 hf1
      have J70 : ∀ (h28 : aH) (t29 : Int32), f_X12_twoAre_j70 h28 v0 v1 v2 v3 v4 v5 t29 = some x14 → gW p l e (rmO 7 0 0) s m args below meth c (MQ below (eQ D cA B Hb out.2 (some (.int out.1))) args s 0 0 (fun q => B ≤ q)) D cA B Hb 8 h28 70 [(0, .ref v0), (1, .int v1), (2, .int v2), (3, .int v3), (4, .int v4), (5, .int v5), (7, .int t29)] [] 0 0 := by
        intro h28 t29 hf1
        unfold f_X12_twoAre_j70 at hf1
        refine r_iconst (v := 1) C dX12_twoAre_70 (by decide) ?_
        refine r_goto (tgt := 75) C dX12_twoAre_71 (by decide) ?_
        exact J75 h28 t29 (1 : Int32) hf1
      refine r_iload C dX12_twoAre_14 rfl ?_
      refine r_iconst (v := 2) C dX12_twoAre_16 (by decide) ?_
      refine r_aload_n C dX12_twoAre_17 rfl ?_
      obtain ⟨t30, e31, hf1⟩ := ob hf1
      refine r_getR C fk_X12_7 rfl dX12_twoAre_18 e31 ?_
      refine r_iconst (v := 3) C dX12_twoAre_21 (by decide) ?_
      obtain ⟨t32, e33, hf1⟩ := ob hf1
      refine r_ldI C dX12_twoAre_22 e33 ?_
      refine r_imul C dX12_twoAre_23 ?_
      refine r_icmp_ge (tgt := 83) C dX12_twoAre_24 (by decide) (fun c34 => ?_) (fun c34 => ?_)
      · rw [if_pos c34] at hf1
        obtain rfl := so hf1
        obtain ⟨rfl, rfl⟩ := so2 (show some (t17, h19) = some (y15, y16) from hk14)
        refine r_subk [0, 4, 6] (lv' := [(0, .ref v0), (4, .int v4), (6, .int t17)]) rfl ?_
        exact J83 h19 v0 v4 t17 hf0
      · rw [if_neg c34] at hf1
        refine r_iload C dX12_twoAre_27 rfl ?_
        refine r_ifeq (tgt := 83) C dX12_twoAre_29 (by decide) (fun c35 => ?_) (fun c35 => ?_)
        · rw [if_pos c35] at hf1
          obtain rfl := so hf1
          obtain ⟨rfl, rfl⟩ := so2 (show some (t17, h19) = some (y15, y16) from hk14)
          refine r_subk [0, 4, 6] (lv' := [(0, .ref v0), (4, .int v4), (6, .int t17)]) rfl ?_
          exact J83 h19 v0 v4 t17 hf0
        · rw [if_neg c35] at hf1
          refine r_aload_n C dX12_twoAre_32 rfl ?_
          refine r_iload_n C dX12_twoAre_33 rfl ?_
          refine r_iload_n C dX12_twoAre_34 rfl ?_
          refine r_iload C dX12_twoAre_35 rfl ?_
          refine r_iload C dX12_twoAre_37 rfl ?_
          obtain ⟨u37, e36, hf1⟩ := ob hf1
          obtain ⟨t38, h39, e40, hf1⟩ := ob2 hf1
          refine r_cV (ci := 12) (rest := []) (st2 := [.int t38]) C (s_X12_answered e40) mk_X12_answered rfl (ck_k e36) (by decide) im_X12_answered sl_X12_answered lk_X12_421 rfl rfl rfl dX12_twoAre_39 (Nat.le_of_ble_eq_true rfl) ⟨Nat.le_of_ble_eq_true rfl, Nat.le_of_ble_eq_true rfl⟩ ⟨Nat.le_of_ble_eq_true rfl, Nat.le_of_ble_eq_true rfl⟩ ?_
          refine r_ifle (tgt := 77) C dX12_twoAre_42 (by decide) (fun c41 => ?_) (fun c41 => ?_)
          · rw [if_pos c41] at hf1
            exact J77 h39 t17 t18 hf1
          · rw [if_neg c41] at hf1
            refine r_aload_n C dX12_twoAre_45 rfl ?_
            refine r_iload_n C dX12_twoAre_46 rfl ?_
            refine r_iconst (v := 1) C dX12_twoAre_47 (by decide) ?_
            refine r_iadd C dX12_twoAre_48 ?_
            refine r_iload_n C dX12_twoAre_49 rfl ?_
            obtain ⟨u43, e42, hf1⟩ := ob hf1
            obtain ⟨t44, e45, hf1⟩ := ob hf1
            refine r_cV (ci := 12) (rest := []) (st2 := [.int t44]) C (s_X12_sureAt e45) mk_X12_sureAt rfl (ck_k e42) (by decide) im_X12_sureAt sl_X12_sureAt lk_X12_394 rfl rfl rfl dX12_twoAre_50 (Nat.le_of_ble_eq_true rfl) ⟨Nat.le_of_ble_eq_true rfl, Nat.le_of_ble_eq_true rfl⟩ ⟨Nat.le_of_ble_eq_true rfl, Nat.le_of_ble_eq_true rfl⟩ ?_
            refine r_iconst (v := -1) C dX12_twoAre_53 (by decide) ?_
            refine r_icmp_ne (tgt := 70) C dX12_twoAre_54 (by decide) (fun c46 => ?_) (fun c46 => ?_)
            · rw [if_neg c46] at hf1
              refine r_subk [0, 1, 2, 3, 4, 5, 7] (lv' := [(0, .ref v0), (1, .int v1), (2, .int v2), (3, .int v3), (4, .int v4), (5, .int v5), (7, .int t18)]) rfl ?_
              exact J70 h39 t18 hf1
            · rw [if_pos c46] at hf1
              refine r_aload_n C dX12_twoAre_57 rfl ?_
              refine r_iload_n C dX12_twoAre_58 rfl ?_
              refine r_iconst (v := 1) C dX12_twoAre_59 (by decide) ?_
              refine r_iadd C dX12_twoAre_60 ?_
              refine r_iload_n C dX12_twoAre_61 rfl ?_
              refine r_iload C dX12_twoAre_62 rfl ?_
              obtain ⟨u48, e47, hf1⟩ := ob hf1
              obtain ⟨t49, h50, e51, hf1⟩ := ob2 hf1
              refine r_cV (ci := 12) (rest := []) (st2 := [.int t49]) C (s_X12_byOne e51) mk_X12_byOne rfl (ck_k e47) (by decide) im_X12_byOne sl_X12_byOne lk_X12_444 rfl rfl rfl dX12_twoAre_64 (Nat.le_of_ble_eq_true rfl) ⟨Nat.le_of_ble_eq_true rfl, Nat.le_of_ble_eq_true rfl⟩ ⟨Nat.le_of_ble_eq_true rfl, Nat.le_of_ble_eq_true rfl⟩ ?_
              refine r_ifeq (tgt := 74) C dX12_twoAre_67 (by decide) (fun c52 => ?_) (fun c52 => ?_)
              · rw [if_pos c52] at hf1
                refine r_iconst (v := 0) C dX12_twoAre_74 (by decide) ?_
                refine r_subk [0, 1, 2, 3, 4, 5, 7] (lv' := [(0, .ref v0), (1, .int v1), (2, .int v2), (3, .int v3), (4, .int v4), (5, .int v5), (7, .int t18)]) rfl ?_
                exact J75 h50 t18 (0 : Int32) hf1
              · rw [if_neg c52] at hf1
                refine r_subk [0, 1, 2, 3, 4, 5, 7] (lv' := [(0, .ref v0), (1, .int v1), (2, .int v2), (3, .int v3), (4, .int v4), (5, .int v5), (7, .int t18)]) rfl ?_
                exact J70 h50 t18 hf1
  refine r_subk [2, 3, 4, 5, 6, 7, 1, 0] (lv' := [(0, .ref v0), (1, .int v1), (2, .int v2), (3, .int v3), (4, .int v4), (5, .int v5), (6, .int (1 : Int32)), (7, .int (0 : Int32))]) rfl ?_
  exact L14 wN (1 : Int32) (0 : Int32) h13 hl14
def f_X12_byTwo_j64 (h : aH) (v0 : Nat) (v1 : Int32) (v2 : Int32) (v3 : Int32) (v4 : Int32) (v5 : Int32) : Option ((Int32 × aH) ⊕ ((aH) ⊕ (aH))) := (some (v5 + (1 : Int32))).bind fun t3 => some (.inl (t3, h))
def f_X12_byTwo_b17 (v0 : Nat) (v1 : Int32) (v2 : Int32) (v3 : Int32) (v4 : Int32) (v5 : Int32) (h : aH) : Option ((Int32 × aH) ⊕ ((aH) ⊕ (aH))) := (gR h 12 v0 0).bind fun t4 => (lI h t4 (3 : Int32)).bind fun t5 => if t5 ≤ v5 then some (.inr (.inr h)) else (ck h 12 v0).bind fun _ => (f_X12_isAsked h v0 v4 v3).bind fun t6 => if t6 = 0 then f_X12_byTwo_j64 h v0 v1 v2 v3 v4 v5 else (gR h 12 v0 35).bind fun t7 => (lZ h t7 v5).bind fun t8 => if t8 = 0 then (ck h 12 v0).bind fun _ => bd2 (f_X12_twoAre h v0 v1 v2 v4 v5 v3) fun t9 h10 => if t9 = 0 then f_X12_byTwo_j64 h10 v0 v1 v2 v3 v4 v5 else some (.inr (.inl h10)) else f_X12_byTwo_j64 h v0 v1 v2 v3 v4 v5
def f_X12_byTwo_l17 (v0 : Nat) (v1 : Int32) (v2 : Int32) (v3 : Int32) (v4 : Int32) (v5 : Int32) (h : aH) : Option ((aH) ⊕ (aH)) := whileL wN (fun q : Int32 × aH => f_X12_byTwo_b17 v0 v1 v2 v3 v4 q.1 q.2) (v5, h)
def f_X12_byTwo_b3 (v0 : Nat) (v1 : Int32) (v2 : Int32) (v3 : Int32) (v4 : Int32) (h : aH) : Option ((Int32 × aH) ⊕ ((aH) ⊕ (aH))) := (gR h 12 v0 0).bind fun t1 => (lI h t1 (4 : Int32)).bind fun t2 => if t2 ≤ v4 then some (.inr (.inr h)) else (f_X12_byTwo_l17 v0 v1 v2 v3 v4 (0 : Int32) h).bind fun e => match e with | .inl h11 => some (.inr (.inl h11)) | .inr h12 => (some (v4 + (1 : Int32))).bind fun t13 => some (.inl (t13, h12))
def f_X12_byTwo_l3 (v0 : Nat) (v1 : Int32) (v2 : Int32) (v3 : Int32) (v4 : Int32) (h : aH) : Option ((aH) ⊕ (aH)) := whileL wN (fun q : Int32 × aH => f_X12_byTwo_b3 v0 v1 v2 v3 q.1 q.2) (v4, h)
def f_X12_byTwo (h : aH) (v0 : Nat) (v1 : Int32) (v2 : Int32) (v3 : Int32) : Option (Int32 × aH) := (f_X12_byTwo_l3 v0 v1 v2 v3 (0 : Int32) h).bind fun e => match e with | .inl h14 => some ((1 : Int32), h14) | .inr h15 => some ((0 : Int32), h15)
theorem s_X12_byTwo {h : aH} {v0 : Nat} {v1 : Int32} {v2 : Int32} {v3 : Int32} {out : Int32 × aH} (hf0 : f_X12_byTwo h v0 v1 v2 v3 = some out) : EV 8 yX12_byTwo cX12_byTwo 6 (some .boolean) h [.ref v0, .int v1, .int v2, .int v3] (some (.int out.1)) out.2 0 0 := by
  refine EV.of (own := RX12) (lv0 := [(0, .ref v0), (1, .int v1), (2, .int v2), (3, .int v3)]) (by decide +kernel) rfl rfl (Nat.le_of_ble_eq_true rfl) ?_
  intro p l e s m args below meth c D cA B Hb C hin
  unfold f_X12_byTwo at hf0
  refine r_iconst (v := 0) C dX12_byTwo_0 (by decide) ?_
  refine r_istore (lv' := [(4, .int (0 : Int32)), (0, .ref v0), (1, .int v1), (2, .int v2), (3, .int v3)]) C dX12_byTwo_1 (by decide) rfl rfl ?_
  obtain ⟨y1, hl3, hf0⟩ := ob hf0
  have L3 : ∀ (n : Nat) (t2 : Int32) (h3 : aH), whileL n (fun q : Int32 × aH => f_X12_byTwo_b3 v0 v1 v2 v3 q.1 q.2) (t2, h3) = some y1 → gW p l e (rmO 8 0 0) s m args below meth c (MQ below (eQ D cA B Hb out.2 (some (.int out.1))) args s 0 0 (fun q => B ≤ q)) D cA B Hb 6 h3 3 [(0, .ref v0), (1, .int v1), (2, .int v2), (3, .int v3), (4, .int t2)] [] 0 0 := by
    intro n
    induction n with
    | zero => intro t2 h3 hz; cases hz
    | succ n ih3 =>
      intro t2 h3 hz
      obtain ⟨x3, hf1, hk3⟩ := wl hz
      replace hf1 : f_X12_byTwo_b3 v0 v1 v2 v3 t2 h3 = some x3 := hf1
      unfold f_X12_byTwo_b3 at hf1
      refine r_iload C dX12_byTwo_3 rfl ?_
      refine r_aload_n C dX12_byTwo_5 rfl ?_
      obtain ⟨t4, e5, hf1⟩ := ob hf1
      refine r_getR C fk_X12_7 rfl dX12_byTwo_6 e5 ?_
      refine r_iconst (v := 4) C dX12_byTwo_9 (by decide) ?_
      obtain ⟨t6, e7, hf1⟩ := ob hf1
      refine r_ldI C dX12_byTwo_10 e7 ?_
      refine r_icmp_ge (tgt := 76) C dX12_byTwo_11 (by decide) (fun c8 => ?_) (fun c8 => ?_)
      · rw [if_pos c8] at hf1
        obtain rfl := so hf1
        obtain rfl := so (show some (.inr h3 : (aH) ⊕ (aH)) = some y1 from hk3)
        dsimp only at hf0
        refine r_iconst (v := 0) C dX12_byTwo_76 (by decide) ?_
        obtain rfl := so hf0
        exact r_zret C dX12_byTwo_77 (Or.inl rfl)
      · rw [if_neg c8] at hf1
        refine r_iconst (v := 0) C dX12_byTwo_14 (by decide) ?_
        refine r_istore (lv' := [(5, .int (0 : Int32)), (0, .ref v0), (1, .int v1), (2, .int v2), (3, .int v3), (4, .int t2)]) C dX12_byTwo_15 (by decide) rfl rfl ?_
        obtain ⟨y9, hl17, hf1⟩ := ob hf1
        have L17 : ∀ (n : Nat) (t10 : Int32) (h11 : aH), whileL n (fun q : Int32 × aH => f_X12_byTwo_b17 v0 v1 v2 v3 t2 q.1 q.2) (t10, h11) = some y9 → gW p l e (rmO 8 0 0) s m args below meth c (MQ below (eQ D cA B Hb out.2 (some (.int out.1))) args s 0 0 (fun q => B ≤ q)) D cA B Hb 6 h11 17 [(0, .ref v0), (1, .int v1), (2, .int v2), (3, .int v3), (4, .int t2), (5, .int t10)] [] 0 0 := by
          intro n
          induction n with
          | zero => intro t10 h11 hz; cases hz
          | succ n ih17 =>
            intro t10 h11 hz
            obtain ⟨x17, hf2, hk17⟩ := wl hz
            replace hf2 : f_X12_byTwo_b17 v0 v1 v2 v3 t2 t10 h11 = some x17 := hf2
            unfold f_X12_byTwo_b17 at hf2
            have J64 : ∀ (h12 : aH) (t13 : Int32), f_X12_byTwo_j64 h12 v0 v1 v2 v3 t2 t13 = some x17 → gW p l e (rmO 8 0 0) s m args below meth c (MQ below (eQ D cA B Hb out.2 (some (.int out.1))) args s 0 0 (fun q => B ≤ q)) D cA B Hb 6 h12 64 [(0, .ref v0), (1, .int v1), (2, .int v2), (3, .int v3), (4, .int t2), (5, .int t13)] [] 0 0 := by
              intro h12 t13 hf2
              unfold f_X12_byTwo_j64 at hf2
              obtain ⟨t14, e15, hf2⟩ := ob hf2
              refine r_iinc (lv' := [(5, .int t14), (0, .ref v0), (1, .int v1), (2, .int v2), (3, .int v3), (4, .int t2)]) C dX12_byTwo_64 rfl e15 (by decide) rfl ?_
              refine r_goto (tgt := 17) C dX12_byTwo_67 (by decide) ?_
              obtain rfl := so hf2
              refine r_subk [1, 2, 3, 4, 5, 0] (lv' := [(0, .ref v0), (1, .int v1), (2, .int v2), (3, .int v3), (4, .int t2), (5, .int t14)]) rfl ?_
              exact ih17 t14 h12 hk17
            refine r_iload C dX12_byTwo_17 rfl ?_
            refine r_aload_n C dX12_byTwo_19 rfl ?_
            obtain ⟨t16, e17, hf2⟩ := ob hf2
            refine r_getR C fk_X12_7 rfl dX12_byTwo_20 e17 ?_
            refine r_iconst (v := 3) C dX12_byTwo_23 (by decide) ?_
            obtain ⟨t18, e19, hf2⟩ := ob hf2
            refine r_ldI C dX12_byTwo_24 e19 ?_
            refine r_icmp_ge (tgt := 70) C dX12_byTwo_25 (by decide) (fun c20 => ?_) (fun c20 => ?_)
            · rw [if_pos c20] at hf2
              obtain rfl := so hf2
              obtain rfl := so (show some (.inr h11 : (aH) ⊕ (aH)) = some y9 from hk17)
              dsimp only at hf1
              obtain ⟨t21, e22, hf1⟩ := ob hf1
              refine r_iinc (lv' := [(4, .int t21), (0, .ref v0), (1, .int v1), (2, .int v2), (3, .int v3), (5, .int t10)]) C dX12_byTwo_70 rfl e22 (by decide) rfl ?_
              refine r_goto (tgt := 3) C dX12_byTwo_73 (by decide) ?_
              obtain rfl := so hf1
              refine r_subk [1, 2, 3, 4, 0] (lv' := [(0, .ref v0), (1, .int v1), (2, .int v2), (3, .int v3), (4, .int t21)]) rfl ?_
              exact ih3 t21 h11 hk3
            · rw [if_neg c20] at hf2
              refine r_aload_n C dX12_byTwo_28 rfl ?_
              refine r_iload C dX12_byTwo_29 rfl ?_
              refine r_iload_n C dX12_byTwo_31 rfl ?_
              obtain ⟨u24, e23, hf2⟩ := ob hf2
              obtain ⟨t25, e26, hf2⟩ := ob hf2
              refine r_cV (ci := 12) (rest := []) (st2 := [.int t25]) C (s_X12_isAsked e26) mk_X12_isAsked rfl (ck_k e23) (by decide) im_X12_isAsked sl_X12_isAsked lk_X12_433 rfl rfl rfl dX12_byTwo_32 (Nat.le_of_ble_eq_true rfl) ⟨Nat.le_of_ble_eq_true rfl, Nat.le_of_ble_eq_true rfl⟩ ⟨Nat.le_of_ble_eq_true rfl, Nat.le_of_ble_eq_true rfl⟩ ?_
              refine r_ifeq (tgt := 64) C dX12_byTwo_35 (by decide) (fun c27 => ?_) (fun c27 => ?_)
              · rw [if_pos c27] at hf2
                exact J64 h11 t10 hf2
              · rw [if_neg c27] at hf2
                refine r_aload_n C dX12_byTwo_38 rfl ?_
                obtain ⟨t28, e29, hf2⟩ := ob hf2
                refine r_getR C fk_X12_72 rfl dX12_byTwo_39 e29 ?_
                refine r_iload C dX12_byTwo_42 rfl ?_
                obtain ⟨t30, e31, hf2⟩ := ob hf2
                refine r_ldZ C dX12_byTwo_44 e31 ?_
                refine r_ifne (tgt := 64) C dX12_byTwo_45 (by decide) (fun c32 => ?_) (fun c32 => ?_)
                · rw [if_neg c32] at hf2
                  exact J64 h11 t10 hf2
                · rw [if_pos c32] at hf2
                  refine r_aload_n C dX12_byTwo_48 rfl ?_
                  refine r_iload_n C dX12_byTwo_49 rfl ?_
                  refine r_iload_n C dX12_byTwo_50 rfl ?_
                  refine r_iload C dX12_byTwo_51 rfl ?_
                  refine r_iload C dX12_byTwo_53 rfl ?_
                  refine r_iload_n C dX12_byTwo_55 rfl ?_
                  obtain ⟨u34, e33, hf2⟩ := ob hf2
                  obtain ⟨t35, h36, e37, hf2⟩ := ob2 hf2
                  refine r_cV (ci := 12) (rest := []) (st2 := [.int t35]) C (s_X12_twoAre e37) mk_X12_twoAre rfl (ck_k e33) (by decide) im_X12_twoAre sl_X12_twoAre lk_X12_440 rfl rfl rfl dX12_byTwo_56 (Nat.le_of_ble_eq_true rfl) ⟨Nat.le_of_ble_eq_true rfl, Nat.le_of_ble_eq_true rfl⟩ ⟨Nat.le_of_ble_eq_true rfl, Nat.le_of_ble_eq_true rfl⟩ ?_
                  refine r_ifeq (tgt := 64) C dX12_byTwo_59 (by decide) (fun c38 => ?_) (fun c38 => ?_)
                  · rw [if_pos c38] at hf2
                    exact J64 h36 t10 hf2
                  · rw [if_neg c38] at hf2
                    obtain rfl := so hf2
                    obtain rfl := so (show some (.inl h36 : (aH) ⊕ (aH)) = some y9 from hk17)
                    dsimp only at hf1
                    obtain rfl := so hf1
                    obtain rfl := so (show some (.inl h36 : (aH) ⊕ (aH)) = some y1 from hk3)
                    dsimp only at hf0
                    refine r_iconst (v := 1) C dX12_byTwo_62 (by decide) ?_
                    obtain rfl := so hf0
                    exact r_zret C dX12_byTwo_63 (Or.inr rfl)
        refine r_subk [1, 2, 3, 4, 5, 0] (lv' := [(0, .ref v0), (1, .int v1), (2, .int v2), (3, .int v3), (4, .int t2), (5, .int (0 : Int32))]) rfl ?_
        exact L17 wN (0 : Int32) h3 hl17
  refine r_subk [1, 2, 3, 4, 0] (lv' := [(0, .ref v0), (1, .int v1), (2, .int v2), (3, .int v3), (4, .int (0 : Int32))]) rfl ?_
  exact L3 wN (0 : Int32) h hl3
def f_X12_threeAre_j77 (h : aH) (v0 : Nat) (v3 : Int32) (v5 : Int32) : Option (Int32 × aH) := (gR h 12 v0 35).bind fun t1 => (sZ h t1 v3 (0 : Int32)).bind fun h2 => (rZ v5).bind fun t3 => some (t3, h2)
def f_X12_threeAre_j71 (h : aH) (v0 : Nat) (v1 : Int32) (v2 : Int32) (v3 : Int32) (v4 : Int32) (v5 : Int32) (v6 : Int32) : Option ((Int32 × Int32 × aH) ⊕ (Int32 × aH)) := (some (v6 + (1 : Int32))).bind fun t6 => some (.inl (v5, t6, h))
def f_X12_threeAre_j69 (h : aH) (v0 : Nat) (v1 : Int32) (v2 : Int32) (v3 : Int32) (v4 : Int32) (v6 : Int32) (s0 : Int32) : Option ((Int32 × Int32 × aH) ⊕ (Int32 × aH)) := f_X12_threeAre_j71 h v0 v1 v2 v3 v4 s0 v6
def f_X12_threeAre_j64 (h : aH) (v0 : Nat) (v1 : Int32) (v2 : Int32) (v3 : Int32) (v4 : Int32) (v6 : Int32) : Option ((Int32 × Int32 × aH) ⊕ (Int32 × aH)) := f_X12_threeAre_j69 h v0 v1 v2 v3 v4 v6 (1 : Int32)
def f_X12_threeAre_b13 (v0 : Nat) (v1 : Int32) (v2 : Int32) (v3 : Int32) (v4 : Int32) (v5 : Int32) (v6 : Int32) (h : aH) : Option ((Int32 × Int32 × aH) ⊕ (Int32 × aH)) := (gR h 12 v0 0).bind fun t7 => (lI h t7 (3 : Int32)).bind fun t8 => if ((2 : Int32) * t8) ≤ v6 then some (.inr (v5, h)) else if v5 = 0 then some (.inr (v5, h)) else (ck h 12 v0).bind fun _ => bd2 (f_X12_answered h v0 (0 : Int32) v2 v3 v6) fun t9 h10 => if t9 ≤ 0 then f_X12_threeAre_j71 h10 v0 v1 v2 v3 v4 v5 v6 else (ck h10 12 v0).bind fun _ => (f_X12_sureAt h10 v0 (1 : Int32) v1).bind fun t11 => if t11 = (-1 : Int32) then (ck h10 12 v0).bind fun _ => bd2 (f_X12_byTwo h10 v0 (1 : Int32) v1 v4) fun t12 h13 => if t12 = 0 then f_X12_threeAre_j69 h13 v0 v1 v2 v3 v4 v6 (0 : Int32) else f_X12_threeAre_j64 h13 v0 v1 v2 v3 v4 v6 else f_X12_threeAre_j64 h10 v0 v1 v2 v3 v4 v6
def f_X12_threeAre_l13 (v0 : Nat) (v1 : Int32) (v2 : Int32) (v3 : Int32) (v4 : Int32) (v5 : Int32) (v6 : Int32) (h : aH) : Option (Int32 × aH) := whileL wN (fun q : Int32 × Int32 × aH => f_X12_threeAre_b13 v0 v1 v2 v3 v4 q.1 q.2.1 q.2.2) (v5, v6, h)
def f_X12_threeAre (h : aH) (v0 : Nat) (v1 : Int32) (v2 : Int32) (v3 : Int32) (v4 : Int32) : Option (Int32 × aH) := (gR h 12 v0 35).bind fun t4 => (sZ h t4 v3 (1 : Int32)).bind fun h5 => bd2 (f_X12_threeAre_l13 v0 v1 v2 v3 v4 (1 : Int32) (0 : Int32) h5) fun t14 h15 => f_X12_threeAre_j77 h15 v0 v3 t14
theorem s_X12_threeAre {h : aH} {v0 : Nat} {v1 : Int32} {v2 : Int32} {v3 : Int32} {v4 : Int32} {out : Int32 × aH} (hf0 : f_X12_threeAre h v0 v1 v2 v3 v4 = some out) : EV 9 yX12_threeAre cX12_threeAre 7 (some .boolean) h [.ref v0, .int v1, .int v2, .int v3, .int v4] (some (.int out.1)) out.2 0 0 := by
  refine EV.of (own := RX12) (lv0 := [(0, .ref v0), (1, .int v1), (2, .int v2), (3, .int v3), (4, .int v4)]) (by decide +kernel) rfl rfl (Nat.le_of_ble_eq_true rfl) ?_
  intro p l e s m args below meth c D cA B Hb C hin
  unfold f_X12_threeAre at hf0
  have J77 : ∀ (h1 : aH) (t2 : Nat) (t3 : Int32) (t4 : Int32), f_X12_threeAre_j77 h1 t2 t3 t4 = some out → gW p l e (rmO 9 0 0) s m args below meth c (MQ below (eQ D cA B Hb out.2 (some (.int out.1))) args s 0 0 (fun q => B ≤ q)) D cA B Hb 7 h1 77 [(0, .ref t2), (3, .int t3), (5, .int t4)] [] 0 0 := by
    intro h1 t2 t3 t4 hf0
    unfold f_X12_threeAre_j77 at hf0
    refine r_aload_n C dX12_threeAre_77 rfl ?_
    obtain ⟨t5, e6, hf0⟩ := ob hf0
    refine r_getR C fk_X12_72 rfl dX12_threeAre_78 e6 ?_
    refine r_iload_n C dX12_threeAre_81 rfl ?_
    refine r_iconst (v := 0) C dX12_threeAre_82 (by decide) ?_
    obtain ⟨h7, e8, hf0⟩ := ob hf0
    refine r_stZ C dX12_threeAre_83 e8 ?_
    refine r_iload C dX12_threeAre_84 rfl ?_
    obtain ⟨t9, e10, hf0⟩ := ob hf0
    obtain ⟨rfl, e10z⟩ := rZ_k e10
    obtain rfl := so hf0
    exact r_zret C dX12_threeAre_86 e10z
  refine r_aload_n C dX12_threeAre_0 rfl ?_
  obtain ⟨t11, e12, hf0⟩ := ob hf0
  refine r_getR C fk_X12_72 rfl dX12_threeAre_1 e12 ?_
  refine r_iload_n C dX12_threeAre_4 rfl ?_
  refine r_iconst (v := 1) C dX12_threeAre_5 (by decide) ?_
  obtain ⟨h13, e14, hf0⟩ := ob hf0
  refine r_stZ C dX12_threeAre_6 e14 ?_
  refine r_iconst (v := 1) C dX12_threeAre_7 (by decide) ?_
  refine r_istore (lv' := [(5, .int (1 : Int32)), (0, .ref v0), (1, .int v1), (2, .int v2), (3, .int v3), (4, .int v4)]) C dX12_threeAre_8 (by decide) rfl rfl ?_
  refine r_iconst (v := 0) C dX12_threeAre_10 (by decide) ?_
  refine r_istore (lv' := [(6, .int (0 : Int32)), (5, .int (1 : Int32)), (0, .ref v0), (1, .int v1), (2, .int v2), (3, .int v3), (4, .int v4)]) C dX12_threeAre_11 (by decide) rfl rfl ?_
  obtain ⟨y15, y16, hl13, hf0⟩ := ob2 hf0
  have L13 : ∀ (n : Nat) (t17 : Int32) (t18 : Int32) (h19 : aH), whileL n (fun q : Int32 × Int32 × aH => f_X12_threeAre_b13 v0 v1 v2 v3 v4 q.1 q.2.1 q.2.2) (t17, t18, h19) = some (y15, y16) → gW p l e (rmO 9 0 0) s m args below meth c (MQ below (eQ D cA B Hb out.2 (some (.int out.1))) args s 0 0 (fun q => B ≤ q)) D cA B Hb 7 h19 13 [(0, .ref v0), (1, .int v1), (2, .int v2), (3, .int v3), (4, .int v4), (5, .int t17), (6, .int t18)] [] 0 0 := by
    intro n
    induction n with
    | zero => intro t17 t18 h19 hz; cases hz
    | succ n ih13 =>
      intro t17 t18 h19 hz
      obtain ⟨x13, hf1, hk13⟩ := wl hz
      replace hf1 : f_X12_threeAre_b13 v0 v1 v2 v3 v4 t17 t18 h19 = some x13 := hf1
      unfold f_X12_threeAre_b13 at hf1
      have J71 : ∀ (h20 : aH) (t21 : Int32) (t22 : Int32), f_X12_threeAre_j71 h20 v0 v1 v2 v3 v4 t21 t22 = some x13 → gW p l e (rmO 9 0 0) s m args below meth c (MQ below (eQ D cA B Hb out.2 (some (.int out.1))) args s 0 0 (fun q => B ≤ q)) D cA B Hb 7 h20 71 [(0, .ref v0), (1, .int v1), (2, .int v2), (3, .int v3), (4, .int v4), (5, .int t21), (6, .int t22)] [] 0 0 := by
        intro h20 t21 t22 hf1
        unfold f_X12_threeAre_j71 at hf1
        obtain ⟨t23, e24, hf1⟩ := ob hf1
        refine r_iinc (lv' := [(6, .int t23), (0, .ref v0), (1, .int v1), (2, .int v2), (3, .int v3), (4, .int v4), (5, .int t21)]) C dX12_threeAre_71 rfl e24 (by decide) rfl ?_
        refine r_goto (tgt := 13) C dX12_threeAre_74 (by decide) ?_
        obtain rfl := so hf1
        refine r_subk [1, 2, 3, 4, 5, 6, 0] (lv' := [(0, .ref v0), (1, .int v1), (2, .int v2), (3, .int v3), (4, .int v4), (5, .int t21), (6, .int t23)]) rfl ?_
        exact ih13 t21 t23 h20 hk13
      have J69 : ∀ (h25 : aH) (t26 : Int32) (t27 : Int32), f_X12_threeAre_j69 h25 v0 v1 v2 v3 v4 t26 t27 = some x13 → gW p l e (rmO 9 0 0) s m args below meth c (MQ below (eQ D cA B Hb out.2 (some (.int out.1))) args s 0 0 (fun q => B ≤ q)) D cA B Hb 7 h25 69 [(0, .ref v0), (1, .int v1), (2, .int v2), (3, .int v3), (4, .int v4), (6, .int t26)] [.int t27] 0 0 := by
        intro h25 t26 t27 hf1
        unfold f_X12_threeAre_j69 at hf1
        refine r_istore (lv' := [(5, .int t27), (0, .ref v0), (1, .int v1), (2, .int v2), (3, .int v3), (4, .int v4), (6, .int t26)]) C dX12_threeAre_69 (by decide) rfl rfl ?_
        refine r_subk [1, 2, 3, 4, 5, 0, 6] (lv' := [(0, .ref v0), (1, .int v1), (2, .int v2), (3, .int v3), (4, .int v4), (5, .int t27), (6, .int t26)]) rfl ?_
        exact J71 h25 t27 t26 hf1
      have J64 : ∀ (h28 : aH) (t29 : Int32), f_X12_threeAre_j64 h28 v0 v1 v2 v3 v4 t29 = some x13 → gW p l e (rmO 9 0 0) s m args below meth c (MQ below (eQ D cA B Hb out.2 (some (.int out.1))) args s 0 0 (fun q => B ≤ q)) D cA B Hb 7 h28 64 [(0, .ref v0), (1, .int v1), (2, .int v2), (3, .int v3), (4, .int v4), (6, .int t29)] [] 0 0 := by
        intro h28 t29 hf1
        unfold f_X12_threeAre_j64 at hf1
        refine r_iconst (v := 1) C dX12_threeAre_64 (by decide) ?_
        refine r_goto (tgt := 69) C dX12_threeAre_65 (by decide) ?_
        exact J69 h28 t29 (1 : Int32) hf1
      refine r_iload C dX12_threeAre_13 rfl ?_
      refine r_iconst (v := 2) C dX12_threeAre_15 (by decide) ?_
      refine r_aload_n C dX12_threeAre_16 rfl ?_
      obtain ⟨t30, e31, hf1⟩ := ob hf1
      refine r_getR C fk_X12_7 rfl dX12_threeAre_17 e31 ?_
      refine r_iconst (v := 3) C dX12_threeAre_20 (by decide) ?_
      obtain ⟨t32, e33, hf1⟩ := ob hf1
      refine r_ldI C dX12_threeAre_21 e33 ?_
      refine r_imul C dX12_threeAre_22 ?_
      refine r_icmp_ge (tgt := 77) C dX12_threeAre_23 (by decide) (fun c34 => ?_) (fun c34 => ?_)
      · rw [if_pos c34] at hf1
        obtain rfl := so hf1
        obtain ⟨rfl, rfl⟩ := so2 (show some (t17, h19) = some (y15, y16) from hk13)
        refine r_subk [0, 3, 5] (lv' := [(0, .ref v0), (3, .int v3), (5, .int t17)]) rfl ?_
        exact J77 h19 v0 v3 t17 hf0
      · rw [if_neg c34] at hf1
        refine r_iload C dX12_threeAre_26 rfl ?_
        refine r_ifeq (tgt := 77) C dX12_threeAre_28 (by decide) (fun c35 => ?_) (fun c35 => ?_)
        · rw [if_pos c35] at hf1
          obtain rfl := so hf1
          obtain ⟨rfl, rfl⟩ := so2 (show some (t17, h19) = some (y15, y16) from hk13)
          refine r_subk [0, 3, 5] (lv' := [(0, .ref v0), (3, .int v3), (5, .int t17)]) rfl ?_
          exact J77 h19 v0 v3 t17 hf0
        · rw [if_neg c35] at hf1
          refine r_aload_n C dX12_threeAre_31 rfl ?_
          refine r_iconst (v := 0) C dX12_threeAre_32 (by decide) ?_
          refine r_iload_n C dX12_threeAre_33 rfl ?_
          refine r_iload_n C dX12_threeAre_34 rfl ?_
          refine r_iload C dX12_threeAre_35 rfl ?_
          obtain ⟨u37, e36, hf1⟩ := ob hf1
          obtain ⟨t38, h39, e40, hf1⟩ := ob2 hf1
          refine r_cV (ci := 12) (rest := []) (st2 := [.int t38]) C (s_X12_answered e40) mk_X12_answered rfl (ck_k e36) (by decide) im_X12_answered sl_X12_answered lk_X12_421 rfl rfl rfl dX12_threeAre_37 (Nat.le_of_ble_eq_true rfl) ⟨Nat.le_of_ble_eq_true rfl, Nat.le_of_ble_eq_true rfl⟩ ⟨Nat.le_of_ble_eq_true rfl, Nat.le_of_ble_eq_true rfl⟩ ?_
          refine r_ifle (tgt := 71) C dX12_threeAre_40 (by decide) (fun c41 => ?_) (fun c41 => ?_)
          · rw [if_pos c41] at hf1
            exact J71 h39 t17 t18 hf1
          · rw [if_neg c41] at hf1
            refine r_aload_n C dX12_threeAre_43 rfl ?_
            refine r_iconst (v := 1) C dX12_threeAre_44 (by decide) ?_
            refine r_iload_n C dX12_threeAre_45 rfl ?_
            obtain ⟨u43, e42, hf1⟩ := ob hf1
            obtain ⟨t44, e45, hf1⟩ := ob hf1
            refine r_cV (ci := 12) (rest := []) (st2 := [.int t44]) C (s_X12_sureAt e45) mk_X12_sureAt rfl (ck_k e42) (by decide) im_X12_sureAt sl_X12_sureAt lk_X12_394 rfl rfl rfl dX12_threeAre_46 (Nat.le_of_ble_eq_true rfl) ⟨Nat.le_of_ble_eq_true rfl, Nat.le_of_ble_eq_true rfl⟩ ⟨Nat.le_of_ble_eq_true rfl, Nat.le_of_ble_eq_true rfl⟩ ?_
            refine r_iconst (v := -1) C dX12_threeAre_49 (by decide) ?_
            refine r_icmp_ne (tgt := 64) C dX12_threeAre_50 (by decide) (fun c46 => ?_) (fun c46 => ?_)
            · rw [if_neg c46] at hf1
              refine r_subk [0, 1, 2, 3, 4, 6] (lv' := [(0, .ref v0), (1, .int v1), (2, .int v2), (3, .int v3), (4, .int v4), (6, .int t18)]) rfl ?_
              exact J64 h39 t18 hf1
            · rw [if_pos c46] at hf1
              refine r_aload_n C dX12_threeAre_53 rfl ?_
              refine r_iconst (v := 1) C dX12_threeAre_54 (by decide) ?_
              refine r_iload_n C dX12_threeAre_55 rfl ?_
              refine r_iload C dX12_threeAre_56 rfl ?_
              obtain ⟨u48, e47, hf1⟩ := ob hf1
              obtain ⟨t49, h50, e51, hf1⟩ := ob2 hf1
              refine r_cV (ci := 12) (rest := []) (st2 := [.int t49]) C (s_X12_byTwo e51) mk_X12_byTwo rfl (ck_k e47) (by decide) im_X12_byTwo sl_X12_byTwo lk_X12_447 rfl rfl rfl dX12_threeAre_58 (Nat.le_of_ble_eq_true rfl) ⟨Nat.le_of_ble_eq_true rfl, Nat.le_of_ble_eq_true rfl⟩ ⟨Nat.le_of_ble_eq_true rfl, Nat.le_of_ble_eq_true rfl⟩ ?_
              refine r_ifeq (tgt := 68) C dX12_threeAre_61 (by decide) (fun c52 => ?_) (fun c52 => ?_)
              · rw [if_pos c52] at hf1
                refine r_iconst (v := 0) C dX12_threeAre_68 (by decide) ?_
                refine r_subk [0, 1, 2, 3, 4, 6] (lv' := [(0, .ref v0), (1, .int v1), (2, .int v2), (3, .int v3), (4, .int v4), (6, .int t18)]) rfl ?_
                exact J69 h50 t18 (0 : Int32) hf1
              · rw [if_neg c52] at hf1
                refine r_subk [0, 1, 2, 3, 4, 6] (lv' := [(0, .ref v0), (1, .int v1), (2, .int v2), (3, .int v3), (4, .int v4), (6, .int t18)]) rfl ?_
                exact J64 h50 t18 hf1
  refine r_subk [2, 3, 4, 5, 6, 1, 0] (lv' := [(0, .ref v0), (1, .int v1), (2, .int v2), (3, .int v3), (4, .int v4), (5, .int (1 : Int32)), (6, .int (0 : Int32))]) rfl ?_
  exact L13 wN (1 : Int32) (0 : Int32) h13 hl13
def f_X12_areEnough_j110 (h : aH) (v0 : Nat) (v4 : Int32) (v5 : Int32) : Option (Int32 × aH) := (pI h 12 v0 37 v4).bind fun h1 => (pI h1 12 v0 38 v5).bind fun h2 => some ((1 : Int32), h2)
def f_X12_areEnough_j124 (h : aH) (v0 : Nat) (v1 : Int32) (v2 : Int32) (v3 : Int32) (v4 : Int32) (v5 : Int32) : Option ((Int32 × aH) ⊕ ((Int32 × aH) ⊕ (aH))) := (some (v5 + (1 : Int32))).bind fun t5 => some (.inl (t5, h))
def f_X12_areEnough_b17 (v0 : Nat) (v1 : Int32) (v2 : Int32) (v3 : Int32) (v4 : Int32) (v5 : Int32) (h : aH) : Option ((Int32 × aH) ⊕ ((Int32 × aH) ⊕ (aH))) := (gR h 12 v0 0).bind fun t6 => (lI h t6 (3 : Int32)).bind fun t7 => if t7 ≤ v5 then some (.inr (.inr h)) else (ck h 12 v0).bind fun _ => (f_X12_isAsked h v0 v4 v3).bind fun t8 => if t8 = 0 then f_X12_areEnough_j124 h v0 v1 v2 v3 v4 v5 else (gR h 12 v0 35).bind fun t9 => (lZ h t9 v5).bind fun t10 => if t10 = 0 then if v1 = (1 : Int32) then (ck h 12 v0).bind fun _ => bd2 (f_X12_oneIs h v0 (0 : Int32) v2 v4 v5) fun t15 h16 => if t15 = 0 then f_X12_areEnough_j124 h16 v0 v1 v2 v3 v4 v5 else some (.inr (.inl (v5, h16))) else if v1 = (2 : Int32) then (ck h 12 v0).bind fun _ => bd2 (f_X12_twoAre h v0 (0 : Int32) v2 v4 v5 v3) fun t13 h14 => if t13 = 0 then f_X12_areEnough_j124 h14 v0 v1 v2 v3 v4 v5 else some (.inr (.inl (v5, h14))) else (ck h 12 v0).bind fun _ => bd2 (f_X12_threeAre h v0 v2 v4 v5 v3) fun t11 h12 => if t11 = 0 then f_X12_areEnough_j124 h12 v0 v1 v2 v3 v4 v5 else some (.inr (.inl (v5, h12))) else f_X12_areEnough_j124 h v0 v1 v2 v3 v4 v5
def f_X12_areEnough_l17 (v0 : Nat) (v1 : Int32) (v2 : Int32) (v3 : Int32) (v4 : Int32) (v5 : Int32) (h : aH) : Option ((Int32 × aH) ⊕ (aH)) := whileL wN (fun q : Int32 × aH => f_X12_areEnough_b17 v0 v1 v2 v3 v4 q.1 q.2) (v5, h)
def f_X12_areEnough_b3 (v0 : Nat) (v1 : Int32) (v2 : Int32) (v3 : Int32) (v4 : Int32) (h : aH) : Option ((Int32 × aH) ⊕ ((Int32 × Int32 × aH) ⊕ (aH))) := (gR h 12 v0 0).bind fun t3 => (lI h t3 (4 : Int32)).bind fun t4 => if t4 ≤ v4 then some (.inr (.inr h)) else (f_X12_areEnough_l17 v0 v1 v2 v3 v4 (0 : Int32) h).bind fun e => match e with | .inl (t17, h18) => some (.inr (.inl (v4, t17, h18))) | .inr h19 => (some (v4 + (1 : Int32))).bind fun t20 => some (.inl (t20, h19))
def f_X12_areEnough_l3 (v0 : Nat) (v1 : Int32) (v2 : Int32) (v3 : Int32) (v4 : Int32) (h : aH) : Option ((Int32 × Int32 × aH) ⊕ (aH)) := whileL wN (fun q : Int32 × aH => f_X12_areEnough_b3 v0 v1 v2 v3 q.1 q.2) (v4, h)
def f_X12_areEnough (h : aH) (v0 : Nat) (v1 : Int32) (v2 : Int32) (v3 : Int32) : Option (Int32 × aH) := (f_X12_areEnough_l3 v0 v1 v2 v3 (0 : Int32) h).bind fun e => match e with | .inl (t21, t22, h23) => f_X12_areEnough_j110 h23 v0 t21 t22 | .inr h24 => some ((0 : Int32), h24)
theorem s_X12_areEnough {h : aH} {v0 : Nat} {v1 : Int32} {v2 : Int32} {v3 : Int32} {out : Int32 × aH} (hf0 : f_X12_areEnough h v0 v1 v2 v3 = some out) : EV 10 yX12_areEnough cX12_areEnough 6 (some .boolean) h [.ref v0, .int v1, .int v2, .int v3] (some (.int out.1)) out.2 0 0 := by
  refine EV.of (own := RX12) (lv0 := [(0, .ref v0), (1, .int v1), (2, .int v2), (3, .int v3)]) (by decide +kernel) rfl rfl (Nat.le_of_ble_eq_true rfl) ?_
  intro p l e s m args below meth c D cA B Hb C hin
  unfold f_X12_areEnough at hf0
  have J110 : ∀ (h1 : aH) (t2 : Nat) (t3 : Int32) (t4 : Int32), f_X12_areEnough_j110 h1 t2 t3 t4 = some out → gW p l e (rmO 10 0 0) s m args below meth c (MQ below (eQ D cA B Hb out.2 (some (.int out.1))) args s 0 0 (fun q => B ≤ q)) D cA B Hb 6 h1 110 [(0, .ref t2), (4, .int t3), (5, .int t4)] [] 0 0 := by
    intro h1 t2 t3 t4 hf0
    unfold f_X12_areEnough_j110 at hf0
    refine r_aload_n C dX12_areEnough_110 rfl ?_
    refine r_iload C dX12_areEnough_111 rfl ?_
    obtain ⟨h5, e6, hf0⟩ := ob hf0
    refine r_putI C fk_X12_79 dX12_areEnough_113 e6 ?_
    refine r_aload_n C dX12_areEnough_116 rfl ?_
    refine r_iload C dX12_areEnough_117 rfl ?_
    obtain ⟨h7, e8, hf0⟩ := ob hf0
    refine r_putI C fk_X12_453 dX12_areEnough_119 e8 ?_
    refine r_iconst (v := 1) C dX12_areEnough_122 (by decide) ?_
    obtain rfl := so hf0
    exact r_zret C dX12_areEnough_123 (Or.inr rfl)
  refine r_iconst (v := 0) C dX12_areEnough_0 (by decide) ?_
  refine r_istore (lv' := [(4, .int (0 : Int32)), (0, .ref v0), (1, .int v1), (2, .int v2), (3, .int v3)]) C dX12_areEnough_1 (by decide) rfl rfl ?_
  obtain ⟨y9, hl3, hf0⟩ := ob hf0
  have L3 : ∀ (n : Nat) (t10 : Int32) (h11 : aH), whileL n (fun q : Int32 × aH => f_X12_areEnough_b3 v0 v1 v2 v3 q.1 q.2) (t10, h11) = some y9 → gW p l e (rmO 10 0 0) s m args below meth c (MQ below (eQ D cA B Hb out.2 (some (.int out.1))) args s 0 0 (fun q => B ≤ q)) D cA B Hb 6 h11 3 [(0, .ref v0), (1, .int v1), (2, .int v2), (3, .int v3), (4, .int t10)] [] 0 0 := by
    intro n
    induction n with
    | zero => intro t10 h11 hz; cases hz
    | succ n ih3 =>
      intro t10 h11 hz
      obtain ⟨x3, hf1, hk3⟩ := wl hz
      replace hf1 : f_X12_areEnough_b3 v0 v1 v2 v3 t10 h11 = some x3 := hf1
      unfold f_X12_areEnough_b3 at hf1
      refine r_iload C dX12_areEnough_3 rfl ?_
      refine r_aload_n C dX12_areEnough_5 rfl ?_
      obtain ⟨t12, e13, hf1⟩ := ob hf1
      refine r_getR C fk_X12_7 rfl dX12_areEnough_6 e13 ?_
      refine r_iconst (v := 4) C dX12_areEnough_9 (by decide) ?_
      obtain ⟨t14, e15, hf1⟩ := ob hf1
      refine r_ldI C dX12_areEnough_10 e15 ?_
      refine r_icmp_ge (tgt := 136) C dX12_areEnough_11 (by decide) (fun c16 => ?_) (fun c16 => ?_)
      · rw [if_pos c16] at hf1
        obtain rfl := so hf1
        obtain rfl := so (show some (.inr h11 : (Int32 × Int32 × aH) ⊕ (aH)) = some y9 from hk3)
        dsimp only at hf0
        refine r_iconst (v := 0) C dX12_areEnough_136 (by decide) ?_
        obtain rfl := so hf0
        exact r_zret C dX12_areEnough_137 (Or.inl rfl)
      · rw [if_neg c16] at hf1
        refine r_iconst (v := 0) C dX12_areEnough_14 (by decide) ?_
        refine r_istore (lv' := [(5, .int (0 : Int32)), (0, .ref v0), (1, .int v1), (2, .int v2), (3, .int v3), (4, .int t10)]) C dX12_areEnough_15 (by decide) rfl rfl ?_
        obtain ⟨y17, hl17, hf1⟩ := ob hf1
        have L17 : ∀ (n : Nat) (t18 : Int32) (h19 : aH), whileL n (fun q : Int32 × aH => f_X12_areEnough_b17 v0 v1 v2 v3 t10 q.1 q.2) (t18, h19) = some y17 → gW p l e (rmO 10 0 0) s m args below meth c (MQ below (eQ D cA B Hb out.2 (some (.int out.1))) args s 0 0 (fun q => B ≤ q)) D cA B Hb 6 h19 17 [(0, .ref v0), (1, .int v1), (2, .int v2), (3, .int v3), (4, .int t10), (5, .int t18)] [] 0 0 := by
          intro n
          induction n with
          | zero => intro t18 h19 hz; cases hz
          | succ n ih17 =>
            intro t18 h19 hz
            obtain ⟨x17, hf2, hk17⟩ := wl hz
            replace hf2 : f_X12_areEnough_b17 v0 v1 v2 v3 t10 t18 h19 = some x17 := hf2
            unfold f_X12_areEnough_b17 at hf2
            have J124 : ∀ (h20 : aH) (t21 : Int32), f_X12_areEnough_j124 h20 v0 v1 v2 v3 t10 t21 = some x17 → gW p l e (rmO 10 0 0) s m args below meth c (MQ below (eQ D cA B Hb out.2 (some (.int out.1))) args s 0 0 (fun q => B ≤ q)) D cA B Hb 6 h20 124 [(0, .ref v0), (1, .int v1), (2, .int v2), (3, .int v3), (4, .int t10), (5, .int t21)] [] 0 0 := by
              intro h20 t21 hf2
              unfold f_X12_areEnough_j124 at hf2
              obtain ⟨t22, e23, hf2⟩ := ob hf2
              refine r_iinc (lv' := [(5, .int t22), (0, .ref v0), (1, .int v1), (2, .int v2), (3, .int v3), (4, .int t10)]) C dX12_areEnough_124 rfl e23 (by decide) rfl ?_
              refine r_goto (tgt := 17) C dX12_areEnough_127 (by decide) ?_
              obtain rfl := so hf2
              refine r_subk [1, 2, 3, 4, 5, 0] (lv' := [(0, .ref v0), (1, .int v1), (2, .int v2), (3, .int v3), (4, .int t10), (5, .int t22)]) rfl ?_
              exact ih17 t22 h20 hk17
            refine r_iload C dX12_areEnough_17 rfl ?_
            refine r_aload_n C dX12_areEnough_19 rfl ?_
            obtain ⟨t24, e25, hf2⟩ := ob hf2
            refine r_getR C fk_X12_7 rfl dX12_areEnough_20 e25 ?_
            refine r_iconst (v := 3) C dX12_areEnough_23 (by decide) ?_
            obtain ⟨t26, e27, hf2⟩ := ob hf2
            refine r_ldI C dX12_areEnough_24 e27 ?_
            refine r_icmp_ge (tgt := 130) C dX12_areEnough_25 (by decide) (fun c28 => ?_) (fun c28 => ?_)
            · rw [if_pos c28] at hf2
              obtain rfl := so hf2
              obtain rfl := so (show some (.inr h19 : (Int32 × aH) ⊕ (aH)) = some y17 from hk17)
              dsimp only at hf1
              obtain ⟨t29, e30, hf1⟩ := ob hf1
              refine r_iinc (lv' := [(4, .int t29), (0, .ref v0), (1, .int v1), (2, .int v2), (3, .int v3), (5, .int t18)]) C dX12_areEnough_130 rfl e30 (by decide) rfl ?_
              refine r_goto (tgt := 3) C dX12_areEnough_133 (by decide) ?_
              obtain rfl := so hf1
              refine r_subk [1, 2, 3, 4, 0] (lv' := [(0, .ref v0), (1, .int v1), (2, .int v2), (3, .int v3), (4, .int t29)]) rfl ?_
              exact ih3 t29 h19 hk3
            · rw [if_neg c28] at hf2
              refine r_aload_n C dX12_areEnough_28 rfl ?_
              refine r_iload C dX12_areEnough_29 rfl ?_
              refine r_iload_n C dX12_areEnough_31 rfl ?_
              obtain ⟨u32, e31, hf2⟩ := ob hf2
              obtain ⟨t33, e34, hf2⟩ := ob hf2
              refine r_cV (ci := 12) (rest := []) (st2 := [.int t33]) C (s_X12_isAsked e34) mk_X12_isAsked rfl (ck_k e31) (by decide) im_X12_isAsked sl_X12_isAsked lk_X12_433 rfl rfl rfl dX12_areEnough_32 (Nat.le_of_ble_eq_true rfl) ⟨Nat.le_of_ble_eq_true rfl, Nat.le_of_ble_eq_true rfl⟩ ⟨Nat.le_of_ble_eq_true rfl, Nat.le_of_ble_eq_true rfl⟩ ?_
              refine r_ifeq (tgt := 124) C dX12_areEnough_35 (by decide) (fun c35 => ?_) (fun c35 => ?_)
              · rw [if_pos c35] at hf2
                exact J124 h19 t18 hf2
              · rw [if_neg c35] at hf2
                refine r_aload_n C dX12_areEnough_38 rfl ?_
                obtain ⟨t36, e37, hf2⟩ := ob hf2
                refine r_getR C fk_X12_72 rfl dX12_areEnough_39 e37 ?_
                refine r_iload C dX12_areEnough_42 rfl ?_
                obtain ⟨t38, e39, hf2⟩ := ob hf2
                refine r_ldZ C dX12_areEnough_44 e39 ?_
                refine r_ifeq (tgt := 51) C dX12_areEnough_45 (by decide) (fun c40 => ?_) (fun c40 => ?_)
                · rw [if_pos c40] at hf2
                  refine r_iload_n C dX12_areEnough_51 rfl ?_
                  refine r_iconst (v := 1) C dX12_areEnough_52 (by decide) ?_
                  refine r_icmp_ne (tgt := 72) C dX12_areEnough_53 (by decide) (fun c41 => ?_) (fun c41 => ?_)
                  · rw [if_neg c41] at hf2
                    refine r_iload_n C dX12_areEnough_72 rfl ?_
                    refine r_iconst (v := 2) C dX12_areEnough_73 (by decide) ?_
                    refine r_icmp_ne (tgt := 94) C dX12_areEnough_74 (by decide) (fun c42 => ?_) (fun c42 => ?_)
                    · rw [if_neg c42] at hf2
                      refine r_aload_n C dX12_areEnough_94 rfl ?_
                      refine r_iload_n C dX12_areEnough_95 rfl ?_
                      refine r_iload C dX12_areEnough_96 rfl ?_
                      refine r_iload C dX12_areEnough_98 rfl ?_
                      refine r_iload_n C dX12_areEnough_100 rfl ?_
                      obtain ⟨u44, e43, hf2⟩ := ob hf2
                      obtain ⟨t45, h46, e47, hf2⟩ := ob2 hf2
                      refine r_cV (ci := 12) (rest := []) (st2 := [.int t45]) C (s_X12_threeAre e47) mk_X12_threeAre rfl (ck_k e43) (by decide) im_X12_threeAre sl_X12_threeAre lk_X12_450 rfl rfl rfl dX12_areEnough_101 (Nat.le_of_ble_eq_true rfl) ⟨Nat.le_of_ble_eq_true rfl, Nat.le_of_ble_eq_true rfl⟩ ⟨Nat.le_of_ble_eq_true rfl, Nat.le_of_ble_eq_true rfl⟩ ?_
                      refine r_ifne (tgt := 110) C dX12_areEnough_104 (by decide) (fun c48 => ?_) (fun c48 => ?_)
                      · rw [if_neg c48] at hf2
                        obtain rfl := so hf2
                        obtain rfl := so (show some (.inl (t18, h46) : (Int32 × aH) ⊕ (aH)) = some y17 from hk17)
                        dsimp only at hf1
                        obtain rfl := so hf1
                        obtain rfl := so (show some (.inl (t10, t18, h46) : (Int32 × Int32 × aH) ⊕ (aH)) = some y9 from hk3)
                        dsimp only at hf0
                        refine r_subk [0, 4, 5] (lv' := [(0, .ref v0), (4, .int t10), (5, .int t18)]) rfl ?_
                        exact J110 h46 v0 t10 t18 hf0
                      · rw [if_pos c48] at hf2
                        refine r_goto (tgt := 124) C dX12_areEnough_107 (by decide) ?_
                        exact J124 h46 t18 hf2
                    · rw [if_pos c42] at hf2
                      refine r_aload_n C dX12_areEnough_77 rfl ?_
                      refine r_iconst (v := 0) C dX12_areEnough_78 (by decide) ?_
                      refine r_iload_n C dX12_areEnough_79 rfl ?_
                      refine r_iload C dX12_areEnough_80 rfl ?_
                      refine r_iload C dX12_areEnough_82 rfl ?_
                      refine r_iload_n C dX12_areEnough_84 rfl ?_
                      obtain ⟨u50, e49, hf2⟩ := ob hf2
                      obtain ⟨t51, h52, e53, hf2⟩ := ob2 hf2
                      refine r_cV (ci := 12) (rest := []) (st2 := [.int t51]) C (s_X12_twoAre e53) mk_X12_twoAre rfl (ck_k e49) (by decide) im_X12_twoAre sl_X12_twoAre lk_X12_440 rfl rfl rfl dX12_areEnough_85 (Nat.le_of_ble_eq_true rfl) ⟨Nat.le_of_ble_eq_true rfl, Nat.le_of_ble_eq_true rfl⟩ ⟨Nat.le_of_ble_eq_true rfl, Nat.le_of_ble_eq_true rfl⟩ ?_
                      refine r_ifne (tgt := 110) C dX12_areEnough_88 (by decide) (fun c54 => ?_) (fun c54 => ?_)
                      · rw [if_neg c54] at hf2
                        obtain rfl := so hf2
                        obtain rfl := so (show some (.inl (t18, h52) : (Int32 × aH) ⊕ (aH)) = some y17 from hk17)
                        dsimp only at hf1
                        obtain rfl := so hf1
                        obtain rfl := so (show some (.inl (t10, t18, h52) : (Int32 × Int32 × aH) ⊕ (aH)) = some y9 from hk3)
                        dsimp only at hf0
                        refine r_subk [0, 4, 5] (lv' := [(0, .ref v0), (4, .int t10), (5, .int t18)]) rfl ?_
                        exact J110 h52 v0 t10 t18 hf0
                      · rw [if_pos c54] at hf2
                        refine r_goto (tgt := 124) C dX12_areEnough_91 (by decide) ?_
                        exact J124 h52 t18 hf2
                  · rw [if_pos c41] at hf2
                    refine r_aload_n C dX12_areEnough_56 rfl ?_
                    refine r_iconst (v := 0) C dX12_areEnough_57 (by decide) ?_
                    refine r_iload_n C dX12_areEnough_58 rfl ?_
                    refine r_iload C dX12_areEnough_59 rfl ?_
                    refine r_iload C dX12_areEnough_61 rfl ?_
                    obtain ⟨u56, e55, hf2⟩ := ob hf2
                    obtain ⟨t57, h58, e59, hf2⟩ := ob2 hf2
                    refine r_cV (ci := 12) (rest := []) (st2 := [.int t57]) C (s_X12_oneIs e59) mk_X12_oneIs rfl (ck_k e55) (by decide) im_X12_oneIs sl_X12_oneIs lk_X12_436 rfl rfl rfl dX12_areEnough_63 (Nat.le_of_ble_eq_true rfl) ⟨Nat.le_of_ble_eq_true rfl, Nat.le_of_ble_eq_true rfl⟩ ⟨Nat.le_of_ble_eq_true rfl, Nat.le_of_ble_eq_true rfl⟩ ?_
                    refine r_ifne (tgt := 110) C dX12_areEnough_66 (by decide) (fun c60 => ?_) (fun c60 => ?_)
                    · rw [if_neg c60] at hf2
                      obtain rfl := so hf2
                      obtain rfl := so (show some (.inl (t18, h58) : (Int32 × aH) ⊕ (aH)) = some y17 from hk17)
                      dsimp only at hf1
                      obtain rfl := so hf1
                      obtain rfl := so (show some (.inl (t10, t18, h58) : (Int32 × Int32 × aH) ⊕ (aH)) = some y9 from hk3)
                      dsimp only at hf0
                      refine r_subk [0, 4, 5] (lv' := [(0, .ref v0), (4, .int t10), (5, .int t18)]) rfl ?_
                      exact J110 h58 v0 t10 t18 hf0
                    · rw [if_pos c60] at hf2
                      refine r_goto (tgt := 124) C dX12_areEnough_69 (by decide) ?_
                      exact J124 h58 t18 hf2
                · rw [if_neg c40] at hf2
                  refine r_goto (tgt := 124) C dX12_areEnough_48 (by decide) ?_
                  exact J124 h19 t18 hf2
        refine r_subk [1, 2, 3, 4, 5, 0] (lv' := [(0, .ref v0), (1, .int v1), (2, .int v2), (3, .int v3), (4, .int t10), (5, .int (0 : Int32))]) rfl ?_
        exact L17 wN (0 : Int32) h11 hl17
  refine r_subk [1, 2, 3, 4, 0] (lv' := [(0, .ref v0), (1, .int v1), (2, .int v2), (3, .int v3), (4, .int (0 : Int32))]) rfl ?_
  exact L3 wN (0 : Int32) h hl3
def f_X12_shortest_j80 (h : aH) (v0 : Nat) (v1 : Int32) (v2 : Int32) (v3 : Int32) (s0 : Int32) (s1 : Int32) : Option ((Int32 × aH) ⊕ ((Int32 × aH) ⊕ (aH))) := if s1 < s0 then some (.inr (.inr h)) else (ck h 12 v0).bind fun _ => bd2 (f_X12_areEnough h v0 v3 v1 v2) fun t4 h5 => if t4 = 0 then (some (v3 + (1 : Int32))).bind fun t6 => some (.inl (t6, h5)) else some (.inr (.inl (v3, h5)))
def f_X12_shortest_b69 (v0 : Nat) (v1 : Int32) (v2 : Int32) (v3 : Int32) (h : aH) : Option ((Int32 × aH) ⊕ ((Int32 × aH) ⊕ (aH))) := if v2 = (-1 : Int32) then f_X12_shortest_j80 h v0 v1 v2 v3 v3 (2 : Int32) else f_X12_shortest_j80 h v0 v1 v2 v3 v3 (3 : Int32)
def f_X12_shortest_l69 (v0 : Nat) (v1 : Int32) (v2 : Int32) (v3 : Int32) (h : aH) : Option ((Int32 × aH) ⊕ (aH)) := whileL wN (fun q : Int32 × aH => f_X12_shortest_b69 v0 v1 v2 q.1 q.2) (v3, h)
def f_X12_shortest_j27 (h : aH) (v0 : Nat) (v1 : Int32) (v2 : Int32) : Option (Int32 × aH) := (ck h 12 v0).bind fun _ => (f_X12_fitsAll h v0).bind fun h1 => (ck h1 12 v0).bind fun _ => (f_X12_leftAt h1 v0 (0 : Int32)).bind fun t2 => if t2 = 0 then (ck h1 12 v0).bind fun _ => bd2 (f_X12_refuse h1 v0 (6 : Int32)) fun t17 h18 => some (t17, h18) else (ck h1 12 v0).bind fun _ => (f_X12_sureAt h1 v0 (0 : Int32) v1).bind fun t3 => if t3 = (-1 : Int32) then (f_X12_shortest_l69 v0 v1 v2 (1 : Int32) h1).bind fun e => match e with | .inl (t7, h8) => (ck h8 12 v0).bind fun _ => bd2 (f_X12_gives h8 v0 t7) fun t9 h10 => some (t9, h10) | .inr h11 => (ck h11 12 v0).bind fun _ => bd2 (f_X12_refuse h11 v0 (6 : Int32)) fun t12 h13 => some (t12, h13) else (pI h1 12 v0 37 (-1 : Int32)).bind fun h14 => (ck h14 12 v0).bind fun _ => bd2 (f_X12_gives h14 v0 (0 : Int32)) fun t15 h16 => some (t15, h16)
def f_X12_shortest_j21 (h : aH) (v0 : Nat) : Option (Int32 × aH) := (ck h 12 v0).bind fun _ => bd2 (f_X12_refuse h v0 (1 : Int32)) fun t19 h20 => some (t19, h20)
def f_X12_shortest (h : aH) (v0 : Nat) (v1 : Int32) (v2 : Int32) : Option (Int32 × aH) := (ck h 12 v0).bind fun _ => (f_X12_isQuestion h v0 v1).bind fun t21 => if t21 = 0 then f_X12_shortest_j21 h v0 else if v2 = (-1 : Int32) then f_X12_shortest_j27 h v0 v1 v2 else (ck h 12 v0).bind fun _ => (f_X12_isWitness h v0 v2).bind fun t22 => if t22 = 0 then f_X12_shortest_j21 h v0 else f_X12_shortest_j27 h v0 v1 v2
theorem s_X12_shortest {h : aH} {v0 : Nat} {v1 : Int32} {v2 : Int32} {out : Int32 × aH} (hf0 : f_X12_shortest h v0 v1 v2 = some out) : EV 11 yX12_shortest cX12_shortest 4 (some .int) h [.ref v0, .int v1, .int v2] (some (.int out.1)) out.2 0 0 := by
  refine EV.of (own := RX12) (lv0 := [(0, .ref v0), (1, .int v1), (2, .int v2)]) (by decide +kernel) rfl rfl (Nat.le_of_ble_eq_true rfl) ?_
  intro p l e s m args below meth c D cA B Hb C hin
  unfold f_X12_shortest at hf0
  have J27 : ∀ (h1 : aH) (t2 : Nat) (t3 : Int32) (t4 : Int32), f_X12_shortest_j27 h1 t2 t3 t4 = some out → gW p l e (rmO 11 0 0) s m args below meth c (MQ below (eQ D cA B Hb out.2 (some (.int out.1))) args s 0 0 (fun q => B ≤ q)) D cA B Hb 4 h1 27 [(0, .ref t2), (1, .int t3), (2, .int t4)] [] 0 0 := by
    intro h1 t2 t3 t4 hf0
    unfold f_X12_shortest_j27 at hf0
    refine r_aload_n C dX12_shortest_27 rfl ?_
    obtain ⟨u6, e5, hf0⟩ := ob hf0
    obtain ⟨h7, e8, hf0⟩ := ob hf0
    refine r_cV (ci := 12) (rest := []) (st2 := []) C (s_X12_fitsAll e8) mk_X12_fitsAll rfl (ck_k e5) (by decide) im_X12_fitsAll sl_X12_fitsAll lk_X12_388 rfl rfl rfl dX12_shortest_28 (Nat.le_of_ble_eq_true rfl) ⟨Nat.le_of_ble_eq_true rfl, Nat.le_of_ble_eq_true rfl⟩ ⟨Nat.le_of_ble_eq_true rfl, Nat.le_of_ble_eq_true rfl⟩ ?_
    refine r_aload_n C dX12_shortest_31 rfl ?_
    refine r_iconst (v := 0) C dX12_shortest_32 (by decide) ?_
    obtain ⟨u10, e9, hf0⟩ := ob hf0
    obtain ⟨t11, e12, hf0⟩ := ob hf0
    refine r_cV (ci := 12) (rest := []) (st2 := [.int t11]) C (s_X12_leftAt e12) mk_X12_leftAt rfl (ck_k e9) (by decide) im_X12_leftAt sl_X12_leftAt lk_X12_391 rfl rfl rfl dX12_shortest_33 (Nat.le_of_ble_eq_true rfl) ⟨Nat.le_of_ble_eq_true rfl, Nat.le_of_ble_eq_true rfl⟩ ⟨Nat.le_of_ble_eq_true rfl, Nat.le_of_ble_eq_true rfl⟩ ?_
    refine r_ifne (tgt := 46) C dX12_shortest_36 (by decide) (fun c13 => ?_) (fun c13 => ?_)
    · rw [if_neg c13] at hf0
      refine r_aload_n C dX12_shortest_46 rfl ?_
      refine r_iconst (v := 0) C dX12_shortest_47 (by decide) ?_
      refine r_iload_n C dX12_shortest_48 rfl ?_
      obtain ⟨u15, e14, hf0⟩ := ob hf0
      obtain ⟨t16, e17, hf0⟩ := ob hf0
      refine r_cV (ci := 12) (rest := []) (st2 := [.int t16]) C (s_X12_sureAt e17) mk_X12_sureAt rfl (ck_k e14) (by decide) im_X12_sureAt sl_X12_sureAt lk_X12_394 rfl rfl rfl dX12_shortest_49 (Nat.le_of_ble_eq_true rfl) ⟨Nat.le_of_ble_eq_true rfl, Nat.le_of_ble_eq_true rfl⟩ ⟨Nat.le_of_ble_eq_true rfl, Nat.le_of_ble_eq_true rfl⟩ ?_
      refine r_iconst (v := -1) C dX12_shortest_52 (by decide) ?_
      refine r_icmp_eq (tgt := 67) C dX12_shortest_53 (by decide) (fun c18 => ?_) (fun c18 => ?_)
      · rw [if_pos c18] at hf0
        refine r_iconst (v := 1) C dX12_shortest_67 (by decide) ?_
        refine r_istore_n (lv' := [(3, .int (1 : Int32)), (0, .ref t2), (1, .int t3), (2, .int t4)]) C dX12_shortest_68 (by decide) rfl rfl ?_
        obtain ⟨y19, hl69, hf0⟩ := ob hf0
        have L69 : ∀ (n : Nat) (t20 : Int32) (h21 : aH), whileL n (fun q : Int32 × aH => f_X12_shortest_b69 t2 t3 t4 q.1 q.2) (t20, h21) = some y19 → gW p l e (rmO 11 0 0) s m args below meth c (MQ below (eQ D cA B Hb out.2 (some (.int out.1))) args s 0 0 (fun q => B ≤ q)) D cA B Hb 4 h21 69 [(0, .ref t2), (1, .int t3), (2, .int t4), (3, .int t20)] [] 0 0 := by
          intro n
          induction n with
          | zero => intro t20 h21 hz; cases hz
          | succ n ih69 =>
            intro t20 h21 hz
            obtain ⟨x69, hf1, hk69⟩ := wl hz
            replace hf1 : f_X12_shortest_b69 t2 t3 t4 t20 h21 = some x69 := hf1
            unfold f_X12_shortest_b69 at hf1
            have J80 : ∀ (h22 : aH) (t23 : Int32) (t24 : Int32) (t25 : Int32), f_X12_shortest_j80 h22 t2 t3 t4 t23 t24 t25 = some x69 → gW p l e (rmO 11 0 0) s m args below meth c (MQ below (eQ D cA B Hb out.2 (some (.int out.1))) args s 0 0 (fun q => B ≤ q)) D cA B Hb 4 h22 80 [(0, .ref t2), (1, .int t3), (2, .int t4), (3, .int t23)] [.int t25, .int t24] 0 0 := by
              intro h22 t23 t24 t25 hf1
              unfold f_X12_shortest_j80 at hf1
              refine r_icmp_gt (tgt := 105) C dX12_shortest_80 (by decide) (fun c26 => ?_) (fun c26 => ?_)
              · rw [if_pos c26] at hf1
                obtain rfl := so hf1
                obtain rfl := so (show some (.inr h22 : (Int32 × aH) ⊕ (aH)) = some y19 from hk69)
                dsimp only at hf0
                refine r_aload_n C dX12_shortest_105 rfl ?_
                refine r_bipush (v := 6) C dX12_shortest_106 (by decide) ?_
                obtain ⟨u28, e27, hf0⟩ := ob hf0
                obtain ⟨t29, h30, e31, hf0⟩ := ob2 hf0
                refine r_cV (ci := 12) (rest := []) (st2 := [.int t29]) C (s_X12_refuse e31) mk_X12_refuse rfl (ck_k e27) (by decide) im_X12_refuse sl_X12_refuse lk_X12_197 rfl rfl rfl dX12_shortest_108 (Nat.le_of_ble_eq_true rfl) ⟨Nat.le_of_ble_eq_true rfl, Nat.le_of_ble_eq_true rfl⟩ ⟨Nat.le_of_ble_eq_true rfl, Nat.le_of_ble_eq_true rfl⟩ ?_
                obtain rfl := so hf0
                exact r_iret C dX12_shortest_111
              · rw [if_neg c26] at hf1
                refine r_aload_n C dX12_shortest_83 rfl ?_
                refine r_iload_n C dX12_shortest_84 rfl ?_
                refine r_iload_n C dX12_shortest_85 rfl ?_
                refine r_iload_n C dX12_shortest_86 rfl ?_
                obtain ⟨u33, e32, hf1⟩ := ob hf1
                obtain ⟨t34, h35, e36, hf1⟩ := ob2 hf1
                refine r_cV (ci := 12) (rest := []) (st2 := [.int t34]) C (s_X12_areEnough e36) mk_X12_areEnough rfl (ck_k e32) (by decide) im_X12_areEnough sl_X12_areEnough lk_X12_456 rfl rfl rfl dX12_shortest_87 (Nat.le_of_ble_eq_true rfl) ⟨Nat.le_of_ble_eq_true rfl, Nat.le_of_ble_eq_true rfl⟩ ⟨Nat.le_of_ble_eq_true rfl, Nat.le_of_ble_eq_true rfl⟩ ?_
                refine r_ifeq (tgt := 99) C dX12_shortest_90 (by decide) (fun c37 => ?_) (fun c37 => ?_)
                · rw [if_pos c37] at hf1
                  obtain ⟨t38, e39, hf1⟩ := ob hf1
                  refine r_iinc (lv' := [(3, .int t38), (0, .ref t2), (1, .int t3), (2, .int t4)]) C dX12_shortest_99 rfl e39 (by decide) rfl ?_
                  refine r_goto (tgt := 69) C dX12_shortest_102 (by decide) ?_
                  obtain rfl := so hf1
                  refine r_subk [1, 2, 3, 0] (lv' := [(0, .ref t2), (1, .int t3), (2, .int t4), (3, .int t38)]) rfl ?_
                  exact ih69 t38 h35 hk69
                · rw [if_neg c37] at hf1
                  obtain rfl := so hf1
                  obtain rfl := so (show some (.inl (t23, h35) : (Int32 × aH) ⊕ (aH)) = some y19 from hk69)
                  dsimp only at hf0
                  refine r_aload_n C dX12_shortest_93 rfl ?_
                  refine r_iload_n C dX12_shortest_94 rfl ?_
                  obtain ⟨u41, e40, hf0⟩ := ob hf0
                  obtain ⟨t42, h43, e44, hf0⟩ := ob2 hf0
                  refine r_cV (ci := 12) (rest := []) (st2 := [.int t42]) C (s_X12_gives e44) mk_X12_gives rfl (ck_k e40) (by decide) im_X12_gives sl_X12_gives lk_X12_200 rfl rfl rfl dX12_shortest_95 (Nat.le_of_ble_eq_true rfl) ⟨Nat.le_of_ble_eq_true rfl, Nat.le_of_ble_eq_true rfl⟩ ⟨Nat.le_of_ble_eq_true rfl, Nat.le_of_ble_eq_true rfl⟩ ?_
                  obtain rfl := so hf0
                  exact r_iret C dX12_shortest_98
            refine r_iload_n C dX12_shortest_69 rfl ?_
            refine r_iload_n C dX12_shortest_70 rfl ?_
            refine r_iconst (v := -1) C dX12_shortest_71 (by decide) ?_
            refine r_icmp_ne (tgt := 79) C dX12_shortest_72 (by decide) (fun c45 => ?_) (fun c45 => ?_)
            · rw [if_neg c45] at hf1
              refine r_iconst (v := 3) C dX12_shortest_79 (by decide) ?_
              exact J80 h21 t20 t20 (3 : Int32) hf1
            · rw [if_pos c45] at hf1
              refine r_iconst (v := 2) C dX12_shortest_75 (by decide) ?_
              refine r_goto (tgt := 80) C dX12_shortest_76 (by decide) ?_
              exact J80 h21 t20 t20 (2 : Int32) hf1
        refine r_subk [1, 2, 3, 0] (lv' := [(0, .ref t2), (1, .int t3), (2, .int t4), (3, .int (1 : Int32))]) rfl ?_
        exact L69 wN (1 : Int32) h7 hl69
      · rw [if_neg c18] at hf0
        refine r_aload_n C dX12_shortest_56 rfl ?_
        refine r_iconst (v := -1) C dX12_shortest_57 (by decide) ?_
        obtain ⟨h46, e47, hf0⟩ := ob hf0
        refine r_putI C fk_X12_79 dX12_shortest_58 e47 ?_
        refine r_aload_n C dX12_shortest_61 rfl ?_
        refine r_iconst (v := 0) C dX12_shortest_62 (by decide) ?_
        obtain ⟨u49, e48, hf0⟩ := ob hf0
        obtain ⟨t50, h51, e52, hf0⟩ := ob2 hf0
        refine r_cV (ci := 12) (rest := []) (st2 := [.int t50]) C (s_X12_gives e52) mk_X12_gives rfl (ck_k e48) (by decide) im_X12_gives sl_X12_gives lk_X12_200 rfl rfl rfl dX12_shortest_63 (Nat.le_of_ble_eq_true rfl) ⟨Nat.le_of_ble_eq_true rfl, Nat.le_of_ble_eq_true rfl⟩ ⟨Nat.le_of_ble_eq_true rfl, Nat.le_of_ble_eq_true rfl⟩ ?_
        obtain rfl := so hf0
        exact r_iret C dX12_shortest_66
    · rw [if_pos c13] at hf0
      refine r_aload_n C dX12_shortest_39 rfl ?_
      refine r_bipush (v := 6) C dX12_shortest_40 (by decide) ?_
      obtain ⟨u54, e53, hf0⟩ := ob hf0
      obtain ⟨t55, h56, e57, hf0⟩ := ob2 hf0
      refine r_cV (ci := 12) (rest := []) (st2 := [.int t55]) C (s_X12_refuse e57) mk_X12_refuse rfl (ck_k e53) (by decide) im_X12_refuse sl_X12_refuse lk_X12_197 rfl rfl rfl dX12_shortest_42 (Nat.le_of_ble_eq_true rfl) ⟨Nat.le_of_ble_eq_true rfl, Nat.le_of_ble_eq_true rfl⟩ ⟨Nat.le_of_ble_eq_true rfl, Nat.le_of_ble_eq_true rfl⟩ ?_
      obtain rfl := so hf0
      exact r_iret C dX12_shortest_45
  have J21 : ∀ (h58 : aH) (t59 : Nat), f_X12_shortest_j21 h58 t59 = some out → gW p l e (rmO 11 0 0) s m args below meth c (MQ below (eQ D cA B Hb out.2 (some (.int out.1))) args s 0 0 (fun q => B ≤ q)) D cA B Hb 4 h58 21 [(0, .ref t59)] [] 0 0 := by
    intro h58 t59 hf0
    unfold f_X12_shortest_j21 at hf0
    refine r_aload_n C dX12_shortest_21 rfl ?_
    refine r_iconst (v := 1) C dX12_shortest_22 (by decide) ?_
    obtain ⟨u61, e60, hf0⟩ := ob hf0
    obtain ⟨t62, h63, e64, hf0⟩ := ob2 hf0
    refine r_cV (ci := 12) (rest := []) (st2 := [.int t62]) C (s_X12_refuse e64) mk_X12_refuse rfl (ck_k e60) (by decide) im_X12_refuse sl_X12_refuse lk_X12_197 rfl rfl rfl dX12_shortest_23 (Nat.le_of_ble_eq_true rfl) ⟨Nat.le_of_ble_eq_true rfl, Nat.le_of_ble_eq_true rfl⟩ ⟨Nat.le_of_ble_eq_true rfl, Nat.le_of_ble_eq_true rfl⟩ ?_
    obtain rfl := so hf0
    exact r_iret C dX12_shortest_26
  refine r_aload_n C dX12_shortest_0 rfl ?_
  refine r_iload_n C dX12_shortest_1 rfl ?_
  obtain ⟨u66, e65, hf0⟩ := ob hf0
  obtain ⟨t67, e68, hf0⟩ := ob hf0
  refine r_cV (ci := 12) (rest := []) (st2 := [.int t67]) C (s_X12_isQuestion e68) mk_X12_isQuestion rfl (ck_k e65) (by decide) im_X12_isQuestion sl_X12_isQuestion lk_X12_334 rfl rfl rfl dX12_shortest_2 (Nat.le_of_ble_eq_true rfl) ⟨Nat.le_of_ble_eq_true rfl, Nat.le_of_ble_eq_true rfl⟩ ⟨Nat.le_of_ble_eq_true rfl, Nat.le_of_ble_eq_true rfl⟩ ?_
  refine r_ifeq (tgt := 21) C dX12_shortest_5 (by decide) (fun c69 => ?_) (fun c69 => ?_)
  · rw [if_pos c69] at hf0
    refine r_subk [0] (lv' := [(0, .ref v0)]) rfl ?_
    exact J21 h v0 hf0
  · rw [if_neg c69] at hf0
    refine r_iload_n C dX12_shortest_8 rfl ?_
    refine r_iconst (v := -1) C dX12_shortest_9 (by decide) ?_
    refine r_icmp_eq (tgt := 27) C dX12_shortest_10 (by decide) (fun c70 => ?_) (fun c70 => ?_)
    · rw [if_pos c70] at hf0
      exact J27 h v0 v1 v2 hf0
    · rw [if_neg c70] at hf0
      refine r_aload_n C dX12_shortest_13 rfl ?_
      refine r_iload_n C dX12_shortest_14 rfl ?_
      obtain ⟨u72, e71, hf0⟩ := ob hf0
      obtain ⟨t73, e74, hf0⟩ := ob hf0
      refine r_cV (ci := 12) (rest := []) (st2 := [.int t73]) C (s_X12_isWitness e74) mk_X12_isWitness rfl (ck_k e71) (by decide) im_X12_isWitness sl_X12_isWitness lk_X12_340 rfl rfl rfl dX12_shortest_15 (Nat.le_of_ble_eq_true rfl) ⟨Nat.le_of_ble_eq_true rfl, Nat.le_of_ble_eq_true rfl⟩ ⟨Nat.le_of_ble_eq_true rfl, Nat.le_of_ble_eq_true rfl⟩ ?_
      refine r_ifne (tgt := 27) C dX12_shortest_18 (by decide) (fun c75 => ?_) (fun c75 => ?_)
      · rw [if_neg c75] at hf0
        exact J27 h v0 v1 v2 hf0
      · rw [if_pos c75] at hf0
        refine r_subk [0] (lv' := [(0, .ref v0)]) rfl ?_
        exact J21 h v0 hf0
def f_X12_shortestFirst_j50 (h : aH) (s0 : Nat) (s1 : Int32) : Option (Int32 × aH) := (ck h 12 s0).bind fun _ => bd2 (f_X12_gives h s0 s1) fun t1 h2 => some (t1, h2)
def f_X12_shortestFirst_j9 (h : aH) (v0 : Nat) : Option (Int32 × aH) := (ck h 12 v0).bind fun _ => bd2 (f_X12_refuse h v0 (1 : Int32)) fun t3 h4 => some (t3, h4)
def f_X12_shortestFirst (h : aH) (v0 : Nat) (v1 : Int32) : Option (Int32 × aH) := if v1 < 0 then f_X12_shortestFirst_j9 h v0 else if v1 ≤ (1 : Int32) then (gI h 12 v0 37).bind fun t5 => if t5 = (-1 : Int32) then (ck h 12 v0).bind fun _ => bd2 (f_X12_refuse h v0 (6 : Int32)) fun t8 h9 => some (t8, h9) else if v1 = 0 then (gI h 12 v0 37).bind fun t7 => f_X12_shortestFirst_j50 h v0 t7 else (gI h 12 v0 38).bind fun t6 => f_X12_shortestFirst_j50 h v0 t6 else f_X12_shortestFirst_j9 h v0
theorem s_X12_shortestFirst {h : aH} {v0 : Nat} {v1 : Int32} {out : Int32 × aH} (hf0 : f_X12_shortestFirst h v0 v1 = some out) : EV 1 yX12_shortestFirst cX12_shortestFirst 2 (some .int) h [.ref v0, .int v1] (some (.int out.1)) out.2 0 0 := by
  refine EV.of (own := RX12) (lv0 := [(0, .ref v0), (1, .int v1)]) (by decide +kernel) rfl rfl (Nat.le_of_ble_eq_true rfl) ?_
  intro p l e s m args below meth c D cA B Hb C hin
  unfold f_X12_shortestFirst at hf0
  have J50 : ∀ (h1 : aH) (t2 : Nat) (t3 : Int32), f_X12_shortestFirst_j50 h1 t2 t3 = some out → gW p l e (rmO 1 0 0) s m args below meth c (MQ below (eQ D cA B Hb out.2 (some (.int out.1))) args s 0 0 (fun q => B ≤ q)) D cA B Hb 2 h1 50 [] [.int t3, .ref t2] 0 0 := by
    intro h1 t2 t3 hf0
    unfold f_X12_shortestFirst_j50 at hf0
    obtain ⟨u5, e4, hf0⟩ := ob hf0
    obtain ⟨t6, h7, e8, hf0⟩ := ob2 hf0
    refine r_cV (ci := 12) (rest := []) (st2 := [.int t6]) C (s_X12_gives e8) mk_X12_gives rfl (ck_k e4) (by decide) im_X12_gives sl_X12_gives lk_X12_200 rfl rfl rfl dX12_shortestFirst_50 (Nat.le_of_ble_eq_true rfl) ⟨Nat.le_of_ble_eq_true rfl, Nat.le_of_ble_eq_true rfl⟩ ⟨Nat.le_of_ble_eq_true rfl, Nat.le_of_ble_eq_true rfl⟩ ?_
    obtain rfl := so hf0
    exact r_iret C dX12_shortestFirst_53
  have J9 : ∀ (h9 : aH) (t10 : Nat), f_X12_shortestFirst_j9 h9 t10 = some out → gW p l e (rmO 1 0 0) s m args below meth c (MQ below (eQ D cA B Hb out.2 (some (.int out.1))) args s 0 0 (fun q => B ≤ q)) D cA B Hb 2 h9 9 [(0, .ref t10)] [] 0 0 := by
    intro h9 t10 hf0
    unfold f_X12_shortestFirst_j9 at hf0
    refine r_aload_n C dX12_shortestFirst_9 rfl ?_
    refine r_iconst (v := 1) C dX12_shortestFirst_10 (by decide) ?_
    obtain ⟨u12, e11, hf0⟩ := ob hf0
    obtain ⟨t13, h14, e15, hf0⟩ := ob2 hf0
    refine r_cV (ci := 12) (rest := []) (st2 := [.int t13]) C (s_X12_refuse e15) mk_X12_refuse rfl (ck_k e11) (by decide) im_X12_refuse sl_X12_refuse lk_X12_197 rfl rfl rfl dX12_shortestFirst_11 (Nat.le_of_ble_eq_true rfl) ⟨Nat.le_of_ble_eq_true rfl, Nat.le_of_ble_eq_true rfl⟩ ⟨Nat.le_of_ble_eq_true rfl, Nat.le_of_ble_eq_true rfl⟩ ?_
    refine r_goto (tgt := 53) C dX12_shortestFirst_14 (by decide) ?_
    obtain rfl := so hf0
    exact r_iret C dX12_shortestFirst_53
  refine r_iload_n C dX12_shortestFirst_0 rfl ?_
  refine r_iflt (tgt := 9) C dX12_shortestFirst_1 (by decide) (fun c16 => ?_) (fun c16 => ?_)
  · rw [if_pos c16] at hf0
    refine r_subk [0] (lv' := [(0, .ref v0)]) rfl ?_
    exact J9 h v0 hf0
  · rw [if_neg c16] at hf0
    refine r_iload_n C dX12_shortestFirst_4 rfl ?_
    refine r_iconst (v := 1) C dX12_shortestFirst_5 (by decide) ?_
    refine r_icmp_le (tgt := 17) C dX12_shortestFirst_6 (by decide) (fun c17 => ?_) (fun c17 => ?_)
    · rw [if_pos c17] at hf0
      refine r_aload_n C dX12_shortestFirst_17 rfl ?_
      obtain ⟨t18, e19, hf0⟩ := ob hf0
      refine r_getI C fk_X12_79 rfl dX12_shortestFirst_18 e19 ?_
      refine r_iconst (v := -1) C dX12_shortestFirst_21 (by decide) ?_
      refine r_icmp_ne (tgt := 34) C dX12_shortestFirst_22 (by decide) (fun c20 => ?_) (fun c20 => ?_)
      · rw [if_neg c20] at hf0
        refine r_aload_n C dX12_shortestFirst_34 rfl ?_
        refine r_iload_n C dX12_shortestFirst_35 rfl ?_
        refine r_ifne (tgt := 46) C dX12_shortestFirst_36 (by decide) (fun c21 => ?_) (fun c21 => ?_)
        · rw [if_neg c21] at hf0
          refine r_aload_n C dX12_shortestFirst_46 rfl ?_
          obtain ⟨t22, e23, hf0⟩ := ob hf0
          refine r_getI C fk_X12_453 rfl dX12_shortestFirst_47 e23 ?_
          refine r_subk [] (lv' := []) rfl ?_
          exact J50 h v0 t22 hf0
        · rw [if_pos c21] at hf0
          refine r_aload_n C dX12_shortestFirst_39 rfl ?_
          obtain ⟨t24, e25, hf0⟩ := ob hf0
          refine r_getI C fk_X12_79 rfl dX12_shortestFirst_40 e25 ?_
          refine r_goto (tgt := 50) C dX12_shortestFirst_43 (by decide) ?_
          refine r_subk [] (lv' := []) rfl ?_
          exact J50 h v0 t24 hf0
      · rw [if_pos c20] at hf0
        refine r_aload_n C dX12_shortestFirst_25 rfl ?_
        refine r_bipush (v := 6) C dX12_shortestFirst_26 (by decide) ?_
        obtain ⟨u27, e26, hf0⟩ := ob hf0
        obtain ⟨t28, h29, e30, hf0⟩ := ob2 hf0
        refine r_cV (ci := 12) (rest := []) (st2 := [.int t28]) C (s_X12_refuse e30) mk_X12_refuse rfl (ck_k e26) (by decide) im_X12_refuse sl_X12_refuse lk_X12_197 rfl rfl rfl dX12_shortestFirst_28 (Nat.le_of_ble_eq_true rfl) ⟨Nat.le_of_ble_eq_true rfl, Nat.le_of_ble_eq_true rfl⟩ ⟨Nat.le_of_ble_eq_true rfl, Nat.le_of_ble_eq_true rfl⟩ ?_
        refine r_goto (tgt := 53) C dX12_shortestFirst_31 (by decide) ?_
        obtain rfl := so hf0
        exact r_iret C dX12_shortestFirst_53
    · rw [if_neg c17] at hf0
      refine r_subk [0] (lv' := [(0, .ref v0)]) rfl ?_
      exact J9 h v0 hf0
def f_X12_settled_j43 (h : aH) (v0 : Nat) (v2 : Int32) (s0 : Int32) (s1 : Int32) : Option ((Int32 × Int32) ⊕ (Int32)) := (some (s0 + s1)).bind fun t2 => (some (v2 + (1 : Int32))).bind fun t3 => some (.inl (t2, t3))
def f_X12_settled_j42 (h : aH) (v0 : Nat) (v2 : Int32) (s0 : Int32) : Option ((Int32 × Int32) ⊕ (Int32)) := f_X12_settled_j43 h v0 v2 s0 (0 : Int32)
def f_X12_settled_b8 (h : aH) (v0 : Nat) (v1 : Int32) (v2 : Int32) : Option ((Int32 × Int32) ⊕ (Int32)) := (gR h 12 v0 0).bind fun t4 => (lI h t4 (3 : Int32)).bind fun t5 => if t5 ≤ v2 then some (.inr v1) else (gR h 12 v0 35).bind fun t6 => (lZ h t6 v2).bind fun t7 => if t7 = 0 then (ck h 12 v0).bind fun _ => (f_X12_sureAt h v0 (0 : Int32) v2).bind fun t8 => if t8 = (-1 : Int32) then f_X12_settled_j42 h v0 v2 v1 else f_X12_settled_j43 h v0 v2 v1 (1 : Int32) else f_X12_settled_j42 h v0 v2 v1
def f_X12_settled_l8 (h : aH) (v0 : Nat) (v1 : Int32) (v2 : Int32) : Option (Int32) := whileL wN (fun q : Int32 × Int32 => f_X12_settled_b8 h v0 q.1 q.2) (v1, v2)
def f_X12_settled (h : aH) (v0 : Nat) : Option (Int32 × aH) := (ck h 12 v0).bind fun _ => (f_X12_fitsAll h v0).bind fun h1 => (f_X12_settled_l8 h1 v0 (0 : Int32) (0 : Int32)).bind fun t9 => (ck h1 12 v0).bind fun _ => bd2 (f_X12_gives h1 v0 t9) fun t10 h11 => some (t10, h11)
theorem s_X12_settled {h : aH} {v0 : Nat} {out : Int32 × aH} (hf0 : f_X12_settled h v0 = some out) : EV 4 yX12_settled cX12_settled 3 (some .int) h [.ref v0] (some (.int out.1)) out.2 0 0 := by
  refine EV.of (own := RX12) (lv0 := [(0, .ref v0)]) (by decide +kernel) rfl rfl (Nat.le_of_ble_eq_true rfl) ?_
  intro p l e s m args below meth c D cA B Hb C hin
  unfold f_X12_settled at hf0
  refine r_aload_n C dX12_settled_0 rfl ?_
  obtain ⟨u2, e1, hf0⟩ := ob hf0
  obtain ⟨h3, e4, hf0⟩ := ob hf0
  refine r_cV (ci := 12) (rest := []) (st2 := []) C (s_X12_fitsAll e4) mk_X12_fitsAll rfl (ck_k e1) (by decide) im_X12_fitsAll sl_X12_fitsAll lk_X12_388 rfl rfl rfl dX12_settled_1 (Nat.le_of_ble_eq_true rfl) ⟨Nat.le_of_ble_eq_true rfl, Nat.le_of_ble_eq_true rfl⟩ ⟨Nat.le_of_ble_eq_true rfl, Nat.le_of_ble_eq_true rfl⟩ ?_
  refine r_iconst (v := 0) C dX12_settled_4 (by decide) ?_
  refine r_istore_n (lv' := [(1, .int (0 : Int32)), (0, .ref v0)]) C dX12_settled_5 (by decide) rfl rfl ?_
  refine r_iconst (v := 0) C dX12_settled_6 (by decide) ?_
  refine r_istore_n (lv' := [(2, .int (0 : Int32)), (1, .int (0 : Int32)), (0, .ref v0)]) C dX12_settled_7 (by decide) rfl rfl ?_
  obtain ⟨y5, hl8, hf0⟩ := ob hf0
  have L8 : ∀ (n : Nat) (t6 : Int32) (t7 : Int32), whileL n (fun q : Int32 × Int32 => f_X12_settled_b8 h3 v0 q.1 q.2) (t6, t7) = some y5 → gW p l e (rmO 4 0 0) s m args below meth c (MQ below (eQ D cA B Hb out.2 (some (.int out.1))) args s 0 0 (fun q => B ≤ q)) D cA B Hb 3 h3 8 [(0, .ref v0), (1, .int t6), (2, .int t7)] [] 0 0 := by
    intro n
    induction n with
    | zero => intro t6 t7 hz; cases hz
    | succ n ih8 =>
      intro t6 t7 hz
      obtain ⟨x8, hf1, hk8⟩ := wl hz
      replace hf1 : f_X12_settled_b8 h3 v0 t6 t7 = some x8 := hf1
      unfold f_X12_settled_b8 at hf1
      have J43 : ∀ (t8 : Int32) (t9 : Int32) (t10 : Int32), f_X12_settled_j43 h3 v0 t8 t9 t10 = some x8 → gW p l e (rmO 4 0 0) s m args below meth c (MQ below (eQ D cA B Hb out.2 (some (.int out.1))) args s 0 0 (fun q => B ≤ q)) D cA B Hb 3 h3 43 [(0, .ref v0), (2, .int t8)] [.int t10, .int t9] 0 0 := by
        intro t8 t9 t10 hf1
        unfold f_X12_settled_j43 at hf1
        refine r_iadd C dX12_settled_43 ?_
        obtain ⟨t11, e12, hf1⟩ := ob hf1
        refine r_istore_n (lv' := [(1, .int t11), (0, .ref v0), (2, .int t8)]) C dX12_settled_44 (by decide) e12 rfl ?_
        obtain ⟨t13, e14, hf1⟩ := ob hf1
        refine r_iinc (lv' := [(2, .int t13), (1, .int t11), (0, .ref v0)]) C dX12_settled_45 rfl e14 (by decide) rfl ?_
        refine r_goto (tgt := 8) C dX12_settled_48 (by decide) ?_
        obtain rfl := so hf1
        refine r_subk [2, 1, 0] (lv' := [(0, .ref v0), (1, .int t11), (2, .int t13)]) rfl ?_
        exact ih8 t11 t13 hk8
      have J42 : ∀ (t15 : Int32) (t16 : Int32), f_X12_settled_j42 h3 v0 t15 t16 = some x8 → gW p l e (rmO 4 0 0) s m args below meth c (MQ below (eQ D cA B Hb out.2 (some (.int out.1))) args s 0 0 (fun q => B ≤ q)) D cA B Hb 3 h3 42 [(0, .ref v0), (2, .int t15)] [.int t16] 0 0 := by
        intro t15 t16 hf1
        unfold f_X12_settled_j42 at hf1
        refine r_iconst (v := 0) C dX12_settled_42 (by decide) ?_
        exact J43 t15 t16 (0 : Int32) hf1
      refine r_iload_n C dX12_settled_8 rfl ?_
      refine r_aload_n C dX12_settled_9 rfl ?_
      obtain ⟨t17, e18, hf1⟩ := ob hf1
      refine r_getR C fk_X12_7 rfl dX12_settled_10 e18 ?_
      refine r_iconst (v := 3) C dX12_settled_13 (by decide) ?_
      obtain ⟨t19, e20, hf1⟩ := ob hf1
      refine r_ldI C dX12_settled_14 e20 ?_
      refine r_icmp_ge (tgt := 51) C dX12_settled_15 (by decide) (fun c21 => ?_) (fun c21 => ?_)
      · rw [if_pos c21] at hf1
        obtain rfl := so hf1
        obtain rfl := so (show some t6 = some y5 from hk8)
        refine r_aload_n C dX12_settled_51 rfl ?_
        refine r_iload_n C dX12_settled_52 rfl ?_
        obtain ⟨u23, e22, hf0⟩ := ob hf0
        obtain ⟨t24, h25, e26, hf0⟩ := ob2 hf0
        refine r_cV (ci := 12) (rest := []) (st2 := [.int t24]) C (s_X12_gives e26) mk_X12_gives rfl (ck_k e22) (by decide) im_X12_gives sl_X12_gives lk_X12_200 rfl rfl rfl dX12_settled_53 (Nat.le_of_ble_eq_true rfl) ⟨Nat.le_of_ble_eq_true rfl, Nat.le_of_ble_eq_true rfl⟩ ⟨Nat.le_of_ble_eq_true rfl, Nat.le_of_ble_eq_true rfl⟩ ?_
        obtain rfl := so hf0
        exact r_iret C dX12_settled_56
      · rw [if_neg c21] at hf1
        refine r_iload_n C dX12_settled_18 rfl ?_
        refine r_aload_n C dX12_settled_19 rfl ?_
        obtain ⟨t27, e28, hf1⟩ := ob hf1
        refine r_getR C fk_X12_72 rfl dX12_settled_20 e28 ?_
        refine r_iload_n C dX12_settled_23 rfl ?_
        obtain ⟨t29, e30, hf1⟩ := ob hf1
        refine r_ldZ C dX12_settled_24 e30 ?_
        refine r_ifne (tgt := 42) C dX12_settled_25 (by decide) (fun c31 => ?_) (fun c31 => ?_)
        · rw [if_neg c31] at hf1
          refine r_subk [0, 2] (lv' := [(0, .ref v0), (2, .int t7)]) rfl ?_
          exact J42 t7 t6 hf1
        · rw [if_pos c31] at hf1
          refine r_aload_n C dX12_settled_28 rfl ?_
          refine r_iconst (v := 0) C dX12_settled_29 (by decide) ?_
          refine r_iload_n C dX12_settled_30 rfl ?_
          obtain ⟨u33, e32, hf1⟩ := ob hf1
          obtain ⟨t34, e35, hf1⟩ := ob hf1
          refine r_cV (ci := 12) (rest := [.int t6]) (st2 := [.int t34, .int t6]) C (s_X12_sureAt e35) mk_X12_sureAt rfl (ck_k e32) (by decide) im_X12_sureAt sl_X12_sureAt lk_X12_394 rfl rfl rfl dX12_settled_31 (Nat.le_of_ble_eq_true rfl) ⟨Nat.le_of_ble_eq_true rfl, Nat.le_of_ble_eq_true rfl⟩ ⟨Nat.le_of_ble_eq_true rfl, Nat.le_of_ble_eq_true rfl⟩ ?_
          refine r_iconst (v := -1) C dX12_settled_34 (by decide) ?_
          refine r_icmp_eq (tgt := 42) C dX12_settled_35 (by decide) (fun c36 => ?_) (fun c36 => ?_)
          · rw [if_pos c36] at hf1
            refine r_subk [0, 2] (lv' := [(0, .ref v0), (2, .int t7)]) rfl ?_
            exact J42 t7 t6 hf1
          · rw [if_neg c36] at hf1
            refine r_iconst (v := 1) C dX12_settled_38 (by decide) ?_
            refine r_goto (tgt := 43) C dX12_settled_39 (by decide) ?_
            refine r_subk [0, 2] (lv' := [(0, .ref v0), (2, .int t7)]) rfl ?_
            exact J43 t7 t6 (1 : Int32) hf1
  refine r_subk [2, 1, 0] (lv' := [(0, .ref v0), (1, .int (0 : Int32)), (2, .int (0 : Int32))]) rfl ?_
  exact L8 wN (0 : Int32) (0 : Int32) hl8
def f_X12_benchBy_j89 (h : aH) (v0 : Nat) (v1 : Int32) (v3 : Int32) (s0 : Int32) (s1 : Int32) : Option ((Int32 × Int32) ⊕ (Int32)) := (some (s0 + s1)).bind fun t1 => (some (v3 + (1 : Int32))).bind fun t2 => some (.inl (t1, t2))
def f_X12_benchBy_j78 (h : aH) (v0 : Nat) (v1 : Int32) (v2 : Int32) (v3 : Int32) (v4 : Int32) : Option ((Int32 × Int32) ⊕ (Int32)) := if v4 = 0 then f_X12_benchBy_j89 h v0 v1 v3 v2 (0 : Int32) else f_X12_benchBy_j89 h v0 v1 v3 v2 (1 : Int32)
def f_X12_benchBy_j70 (h : aH) (v0 : Nat) (v1 : Int32) (v2 : Int32) (v3 : Int32) (v5 : Int32) (s0 : Int32) : Option ((Int32 × Int32) ⊕ (Int32)) := (some (v5 + (1 : Int32))).bind fun t6 => some (.inl (s0, t6))
def f_X12_benchBy_b24 (h : aH) (v0 : Nat) (v1 : Int32) (v2 : Int32) (v3 : Int32) (v4 : Int32) (v5 : Int32) : Option ((Int32 × Int32) ⊕ (Int32)) := if v1 ≤ v5 then some (.inr v4) else if v4 = 0 then some (.inr v4) else (ck h 12 v0).bind fun _ => (f_X12_ofHeard h v0 v5 (0 : Int32)).bind fun t7 => (ck h 12 v0).bind fun _ => (f_X12_ofHeard h v0 v5 (1 : Int32)).bind fun t8 => (ck h 12 v0).bind fun _ => (f_X12_saysAs h v0 t7 t8 v3 (0 : Int32)).bind fun t9 => (ck h 12 v0).bind fun _ => (f_X12_ofHeard h v0 v5 (2 : Int32)).bind fun t10 => if t9 = t10 then f_X12_benchBy_j70 h v0 v1 v2 v3 v5 (1 : Int32) else f_X12_benchBy_j70 h v0 v1 v2 v3 v5 (0 : Int32)
def f_X12_benchBy_l24 (h : aH) (v0 : Nat) (v1 : Int32) (v2 : Int32) (v3 : Int32) (v4 : Int32) (v5 : Int32) : Option (Int32) := whileL wN (fun q : Int32 × Int32 => f_X12_benchBy_b24 h v0 v1 v2 v3 q.1 q.2) (v4, v5)
def f_X12_benchBy_b4 (h : aH) (v0 : Nat) (v1 : Int32) (v2 : Int32) (v3 : Int32) : Option ((Int32 × Int32) ⊕ (Int32)) := (gR h 12 v0 0).bind fun t3 => (lI h t3 (2 : Int32)).bind fun t4 => if t4 ≤ v3 then some (.inr v2) else (ck h 12 v0).bind fun _ => (f_X12_isPossible h v0 v3).bind fun t5 => (f_X12_benchBy_l24 h v0 v1 v2 v3 t5 (0 : Int32)).bind fun t11 => f_X12_benchBy_j78 h v0 v1 v2 v3 t11
def f_X12_benchBy_l4 (h : aH) (v0 : Nat) (v1 : Int32) (v2 : Int32) (v3 : Int32) : Option (Int32) := whileL wN (fun q : Int32 × Int32 => f_X12_benchBy_b4 h v0 v1 q.1 q.2) (v2, v3)
def f_X12_benchBy (h : aH) (v0 : Nat) (v1 : Int32) : Option (Int32) := (f_X12_benchBy_l4 h v0 v1 (0 : Int32) (0 : Int32)).bind fun t12 => some t12
theorem s_X12_benchBy {h : aH} {v0 : Nat} {v1 : Int32} {out : Int32} (hf0 : f_X12_benchBy h v0 v1 = some out) : EV 2 yX12_benchBy cX12_benchBy 6 (some .int) h [.ref v0, .int v1] (some (.int out)) h 0 0 := by
  refine EV.of (own := RX12) (lv0 := [(0, .ref v0), (1, .int v1)]) (by decide +kernel) rfl rfl (Nat.le_of_ble_eq_true rfl) ?_
  intro p l e s m args below meth c D cA B Hb C hin
  unfold f_X12_benchBy at hf0
  refine r_iconst (v := 0) C dX12_benchBy_0 (by decide) ?_
  refine r_istore_n (lv' := [(2, .int (0 : Int32)), (0, .ref v0), (1, .int v1)]) C dX12_benchBy_1 (by decide) rfl rfl ?_
  refine r_iconst (v := 0) C dX12_benchBy_2 (by decide) ?_
  refine r_istore_n (lv' := [(3, .int (0 : Int32)), (2, .int (0 : Int32)), (0, .ref v0), (1, .int v1)]) C dX12_benchBy_3 (by decide) rfl rfl ?_
  obtain ⟨y1, hl4, hf0⟩ := ob hf0
  have L4 : ∀ (n : Nat) (t2 : Int32) (t3 : Int32), whileL n (fun q : Int32 × Int32 => f_X12_benchBy_b4 h v0 v1 q.1 q.2) (t2, t3) = some y1 → gW p l e (rmO 2 0 0) s m args below meth c (MQ below (eQ D cA B Hb h (some (.int out))) args s 0 0 (fun q => B ≤ q)) D cA B Hb 6 h 4 [(0, .ref v0), (1, .int v1), (2, .int t2), (3, .int t3)] [] 0 0 := by
    intro n
    induction n with
    | zero => intro t2 t3 hz; cases hz
    | succ n ih4 =>
      intro t2 t3 hz
      obtain ⟨x4, hf1, hk4⟩ := wl hz
      replace hf1 : f_X12_benchBy_b4 h v0 v1 t2 t3 = some x4 := hf1
      unfold f_X12_benchBy_b4 at hf1
      have J89 : ∀ (t4 : Int32) (t5 : Int32) (t6 : Int32), f_X12_benchBy_j89 h v0 v1 t4 t5 t6 = some x4 → gW p l e (rmO 2 0 0) s m args below meth c (MQ below (eQ D cA B Hb h (some (.int out))) args s 0 0 (fun q => B ≤ q)) D cA B Hb 6 h 89 [(0, .ref v0), (1, .int v1), (3, .int t4)] [.int t6, .int t5] 0 0 := by
        intro t4 t5 t6 hf1
        unfold f_X12_benchBy_j89 at hf1
        refine r_iadd C dX12_benchBy_89 ?_
        obtain ⟨t7, e8, hf1⟩ := ob hf1
        refine r_istore_n (lv' := [(2, .int t7), (0, .ref v0), (1, .int v1), (3, .int t4)]) C dX12_benchBy_90 (by decide) e8 rfl ?_
        obtain ⟨t9, e10, hf1⟩ := ob hf1
        refine r_iinc (lv' := [(3, .int t9), (2, .int t7), (0, .ref v0), (1, .int v1)]) C dX12_benchBy_91 rfl e10 (by decide) rfl ?_
        refine r_goto (tgt := 4) C dX12_benchBy_94 (by decide) ?_
        obtain rfl := so hf1
        refine r_subk [2, 3, 1, 0] (lv' := [(0, .ref v0), (1, .int v1), (2, .int t7), (3, .int t9)]) rfl ?_
        exact ih4 t7 t9 hk4
      have J78 : ∀ (t11 : Int32) (t12 : Int32) (t13 : Int32), f_X12_benchBy_j78 h v0 v1 t11 t12 t13 = some x4 → gW p l e (rmO 2 0 0) s m args below meth c (MQ below (eQ D cA B Hb h (some (.int out))) args s 0 0 (fun q => B ≤ q)) D cA B Hb 6 h 78 [(0, .ref v0), (1, .int v1), (2, .int t11), (3, .int t12), (4, .int t13)] [] 0 0 := by
        intro t11 t12 t13 hf1
        unfold f_X12_benchBy_j78 at hf1
        refine r_iload_n C dX12_benchBy_78 rfl ?_
        refine r_iload C dX12_benchBy_79 rfl ?_
        refine r_ifeq (tgt := 88) C dX12_benchBy_81 (by decide) (fun c14 => ?_) (fun c14 => ?_)
        · rw [if_pos c14] at hf1
          refine r_iconst (v := 0) C dX12_benchBy_88 (by decide) ?_
          refine r_subk [0, 1, 3] (lv' := [(0, .ref v0), (1, .int v1), (3, .int t12)]) rfl ?_
          exact J89 t12 t11 (0 : Int32) hf1
        · rw [if_neg c14] at hf1
          refine r_iconst (v := 1) C dX12_benchBy_84 (by decide) ?_
          refine r_goto (tgt := 89) C dX12_benchBy_85 (by decide) ?_
          refine r_subk [0, 1, 3] (lv' := [(0, .ref v0), (1, .int v1), (3, .int t12)]) rfl ?_
          exact J89 t12 t11 (1 : Int32) hf1
      refine r_iload_n C dX12_benchBy_4 rfl ?_
      refine r_aload_n C dX12_benchBy_5 rfl ?_
      obtain ⟨t15, e16, hf1⟩ := ob hf1
      refine r_getR C fk_X12_7 rfl dX12_benchBy_6 e16 ?_
      refine r_iconst (v := 2) C dX12_benchBy_9 (by decide) ?_
      obtain ⟨t17, e18, hf1⟩ := ob hf1
      refine r_ldI C dX12_benchBy_10 e18 ?_
      refine r_icmp_ge (tgt := 97) C dX12_benchBy_11 (by decide) (fun c19 => ?_) (fun c19 => ?_)
      · rw [if_pos c19] at hf1
        obtain rfl := so hf1
        obtain rfl := so (show some t2 = some y1 from hk4)
        refine r_iload_n C dX12_benchBy_97 rfl ?_
        obtain rfl := so hf0
        exact r_iret C dX12_benchBy_98
      · rw [if_neg c19] at hf1
        refine r_aload_n C dX12_benchBy_14 rfl ?_
        refine r_iload_n C dX12_benchBy_15 rfl ?_
        obtain ⟨u21, e20, hf1⟩ := ob hf1
        obtain ⟨t22, e23, hf1⟩ := ob hf1
        refine r_cV (ci := 12) (rest := []) (st2 := [.int t22]) C (s_X12_isPossible e23) mk_X12_isPossible rfl (ck_k e20) (by decide) im_X12_isPossible sl_X12_isPossible lk_X12_331 rfl rfl rfl dX12_benchBy_16 (Nat.le_of_ble_eq_true rfl) ⟨Nat.le_of_ble_eq_true rfl, Nat.le_of_ble_eq_true rfl⟩ ⟨Nat.le_of_ble_eq_true rfl, Nat.le_of_ble_eq_true rfl⟩ ?_
        refine r_istore (lv' := [(4, .int t22), (0, .ref v0), (1, .int v1), (2, .int t2), (3, .int t3)]) C dX12_benchBy_19 (by decide) rfl rfl ?_
        refine r_iconst (v := 0) C dX12_benchBy_21 (by decide) ?_
        refine r_istore (lv' := [(5, .int (0 : Int32)), (4, .int t22), (0, .ref v0), (1, .int v1), (2, .int t2), (3, .int t3)]) C dX12_benchBy_22 (by decide) rfl rfl ?_
        obtain ⟨y24, hl24, hf1⟩ := ob hf1
        have L24 : ∀ (n : Nat) (t25 : Int32) (t26 : Int32), whileL n (fun q : Int32 × Int32 => f_X12_benchBy_b24 h v0 v1 t2 t3 q.1 q.2) (t25, t26) = some y24 → gW p l e (rmO 2 0 0) s m args below meth c (MQ below (eQ D cA B Hb h (some (.int out))) args s 0 0 (fun q => B ≤ q)) D cA B Hb 6 h 24 [(0, .ref v0), (1, .int v1), (2, .int t2), (3, .int t3), (4, .int t25), (5, .int t26)] [] 0 0 := by
          intro n
          induction n with
          | zero => intro t25 t26 hz; cases hz
          | succ n ih24 =>
            intro t25 t26 hz
            obtain ⟨x24, hf2, hk24⟩ := wl hz
            replace hf2 : f_X12_benchBy_b24 h v0 v1 t2 t3 t25 t26 = some x24 := hf2
            unfold f_X12_benchBy_b24 at hf2
            have J70 : ∀ (t27 : Int32) (t28 : Int32), f_X12_benchBy_j70 h v0 v1 t2 t3 t27 t28 = some x24 → gW p l e (rmO 2 0 0) s m args below meth c (MQ below (eQ D cA B Hb h (some (.int out))) args s 0 0 (fun q => B ≤ q)) D cA B Hb 6 h 70 [(0, .ref v0), (1, .int v1), (2, .int t2), (3, .int t3), (5, .int t27)] [.int t28] 0 0 := by
              intro t27 t28 hf2
              unfold f_X12_benchBy_j70 at hf2
              refine r_istore (lv' := [(4, .int t28), (0, .ref v0), (1, .int v1), (2, .int t2), (3, .int t3), (5, .int t27)]) C dX12_benchBy_70 (by decide) rfl rfl ?_
              obtain ⟨t29, e30, hf2⟩ := ob hf2
              refine r_iinc (lv' := [(5, .int t29), (4, .int t28), (0, .ref v0), (1, .int v1), (2, .int t2), (3, .int t3)]) C dX12_benchBy_72 rfl e30 (by decide) rfl ?_
              refine r_goto (tgt := 24) C dX12_benchBy_75 (by decide) ?_
              obtain rfl := so hf2
              refine r_subk [2, 3, 4, 5, 1, 0] (lv' := [(0, .ref v0), (1, .int v1), (2, .int t2), (3, .int t3), (4, .int t28), (5, .int t29)]) rfl ?_
              exact ih24 t28 t29 hk24
            refine r_iload C dX12_benchBy_24 rfl ?_
            refine r_iload_n C dX12_benchBy_26 rfl ?_
            refine r_icmp_ge (tgt := 78) C dX12_benchBy_27 (by decide) (fun c31 => ?_) (fun c31 => ?_)
            · rw [if_pos c31] at hf2
              obtain rfl := so hf2
              obtain rfl := so (show some t25 = some y24 from hk24)
              refine r_subk [0, 1, 2, 3, 4] (lv' := [(0, .ref v0), (1, .int v1), (2, .int t2), (3, .int t3), (4, .int t25)]) rfl ?_
              exact J78 t2 t3 t25 hf1
            · rw [if_neg c31] at hf2
              refine r_iload C dX12_benchBy_30 rfl ?_
              refine r_ifeq (tgt := 78) C dX12_benchBy_32 (by decide) (fun c32 => ?_) (fun c32 => ?_)
              · rw [if_pos c32] at hf2
                obtain rfl := so hf2
                obtain rfl := so (show some t25 = some y24 from hk24)
                refine r_subk [0, 1, 2, 3, 4] (lv' := [(0, .ref v0), (1, .int v1), (2, .int t2), (3, .int t3), (4, .int t25)]) rfl ?_
                exact J78 t2 t3 t25 hf1
              · rw [if_neg c32] at hf2
                refine r_aload_n C dX12_benchBy_35 rfl ?_
                refine r_aload_n C dX12_benchBy_36 rfl ?_
                refine r_iload C dX12_benchBy_37 rfl ?_
                refine r_iconst (v := 0) C dX12_benchBy_39 (by decide) ?_
                obtain ⟨u34, e33, hf2⟩ := ob hf2
                obtain ⟨t35, e36, hf2⟩ := ob hf2
                refine r_cV (ci := 12) (rest := [.ref v0]) (st2 := [.int t35, .ref v0]) C (s_X12_ofHeard e36) mk_X12_ofHeard rfl (ck_k e33) (by decide) im_X12_ofHeard sl_X12_ofHeard lk_X12_322 rfl rfl rfl dX12_benchBy_40 (Nat.le_of_ble_eq_true rfl) ⟨Nat.le_of_ble_eq_true rfl, Nat.le_of_ble_eq_true rfl⟩ ⟨Nat.le_of_ble_eq_true rfl, Nat.le_of_ble_eq_true rfl⟩ ?_
                refine r_aload_n C dX12_benchBy_43 rfl ?_
                refine r_iload C dX12_benchBy_44 rfl ?_
                refine r_iconst (v := 1) C dX12_benchBy_46 (by decide) ?_
                obtain ⟨u38, e37, hf2⟩ := ob hf2
                obtain ⟨t39, e40, hf2⟩ := ob hf2
                refine r_cV (ci := 12) (rest := [.int t35, .ref v0]) (st2 := [.int t39, .int t35, .ref v0]) C (s_X12_ofHeard e40) mk_X12_ofHeard rfl (ck_k e37) (by decide) im_X12_ofHeard sl_X12_ofHeard lk_X12_322 rfl rfl rfl dX12_benchBy_47 (Nat.le_of_ble_eq_true rfl) ⟨Nat.le_of_ble_eq_true rfl, Nat.le_of_ble_eq_true rfl⟩ ⟨Nat.le_of_ble_eq_true rfl, Nat.le_of_ble_eq_true rfl⟩ ?_
                refine r_iload_n C dX12_benchBy_50 rfl ?_
                refine r_iconst (v := 0) C dX12_benchBy_51 (by decide) ?_
                obtain ⟨u42, e41, hf2⟩ := ob hf2
                obtain ⟨t43, e44, hf2⟩ := ob hf2
                refine r_cV (ci := 12) (rest := []) (st2 := [.int t43]) C (s_X12_saysAs e44) mk_X12_saysAs rfl (ck_k e41) (by decide) im_X12_saysAs sl_X12_saysAs lk_X12_368 rfl rfl rfl dX12_benchBy_52 (Nat.le_of_ble_eq_true rfl) ⟨Nat.le_of_ble_eq_true rfl, Nat.le_of_ble_eq_true rfl⟩ ⟨Nat.le_of_ble_eq_true rfl, Nat.le_of_ble_eq_true rfl⟩ ?_
                refine r_aload_n C dX12_benchBy_55 rfl ?_
                refine r_iload C dX12_benchBy_56 rfl ?_
                refine r_iconst (v := 2) C dX12_benchBy_58 (by decide) ?_
                obtain ⟨u46, e45, hf2⟩ := ob hf2
                obtain ⟨t47, e48, hf2⟩ := ob hf2
                refine r_cV (ci := 12) (rest := [.int t43]) (st2 := [.int t47, .int t43]) C (s_X12_ofHeard e48) mk_X12_ofHeard rfl (ck_k e45) (by decide) im_X12_ofHeard sl_X12_ofHeard lk_X12_322 rfl rfl rfl dX12_benchBy_59 (Nat.le_of_ble_eq_true rfl) ⟨Nat.le_of_ble_eq_true rfl, Nat.le_of_ble_eq_true rfl⟩ ⟨Nat.le_of_ble_eq_true rfl, Nat.le_of_ble_eq_true rfl⟩ ?_
                refine r_icmp_ne (tgt := 69) C dX12_benchBy_62 (by decide) (fun c49 => ?_) (fun c49 => ?_)
                · rw [if_neg c49] at hf2
                  refine r_iconst (v := 0) C dX12_benchBy_69 (by decide) ?_
                  refine r_subk [0, 1, 2, 3, 5] (lv' := [(0, .ref v0), (1, .int v1), (2, .int t2), (3, .int t3), (5, .int t26)]) rfl ?_
                  exact J70 t26 (0 : Int32) hf2
                · rw [if_pos c49] at hf2
                  refine r_iconst (v := 1) C dX12_benchBy_65 (by decide) ?_
                  refine r_goto (tgt := 70) C dX12_benchBy_66 (by decide) ?_
                  refine r_subk [0, 1, 2, 3, 5] (lv' := [(0, .ref v0), (1, .int v1), (2, .int t2), (3, .int t3), (5, .int t26)]) rfl ?_
                  exact J70 t26 (1 : Int32) hf2
        refine r_subk [2, 3, 4, 5, 1, 0] (lv' := [(0, .ref v0), (1, .int v1), (2, .int t2), (3, .int t3), (4, .int t22), (5, .int (0 : Int32))]) rfl ?_
        exact L24 wN t22 (0 : Int32) hl24
  refine r_subk [2, 3, 1, 0] (lv' := [(0, .ref v0), (1, .int v1), (2, .int (0 : Int32)), (3, .int (0 : Int32))]) rfl ?_
  exact L4 wN (0 : Int32) (0 : Int32) hl4
def f_X12_bench (h : aH) (v0 : Nat) : Option (Int32 × aH) := (gR h 12 v0 0).bind fun t1 => (lI h t1 (6 : Int32)).bind fun t2 => (ck h 12 v0).bind fun _ => (f_X12_benchBy h v0 t2).bind fun t3 => (ck h 12 v0).bind fun _ => bd2 (f_X12_gives h v0 t3) fun t4 h5 => some (t4, h5)
theorem s_X12_bench {h : aH} {v0 : Nat} {out : Int32 × aH} (hf0 : f_X12_bench h v0 = some out) : EV 3 yX12_bench cX12_bench 1 (some .int) h [.ref v0] (some (.int out.1)) out.2 0 0 := by
  refine EV.of (own := RX12) (lv0 := [(0, .ref v0)]) (by decide +kernel) rfl rfl (Nat.le_of_ble_eq_true rfl) ?_
  intro p l e s m args below meth c D cA B Hb C hin
  unfold f_X12_bench at hf0
  refine r_aload_n C dX12_bench_0 rfl ?_
  refine r_aload_n C dX12_bench_1 rfl ?_
  refine r_aload_n C dX12_bench_2 rfl ?_
  obtain ⟨t1, e2, hf0⟩ := ob hf0
  refine r_getR C fk_X12_7 rfl dX12_bench_3 e2 ?_
  refine r_bipush (v := 6) C dX12_bench_6 (by decide) ?_
  obtain ⟨t3, e4, hf0⟩ := ob hf0
  refine r_ldI C dX12_bench_8 e4 ?_
  obtain ⟨u6, e5, hf0⟩ := ob hf0
  obtain ⟨t7, e8, hf0⟩ := ob hf0
  refine r_cV (ci := 12) (rest := [.ref v0]) (st2 := [.int t7, .ref v0]) C (s_X12_benchBy e8) mk_X12_benchBy rfl (ck_k e5) (by decide) im_X12_benchBy sl_X12_benchBy lk_X12_459 rfl rfl rfl dX12_bench_9 (Nat.le_of_ble_eq_true rfl) ⟨Nat.le_of_ble_eq_true rfl, Nat.le_of_ble_eq_true rfl⟩ ⟨Nat.le_of_ble_eq_true rfl, Nat.le_of_ble_eq_true rfl⟩ ?_
  obtain ⟨u10, e9, hf0⟩ := ob hf0
  obtain ⟨t11, h12, e13, hf0⟩ := ob2 hf0
  refine r_cV (ci := 12) (rest := []) (st2 := [.int t11]) C (s_X12_gives e13) mk_X12_gives rfl (ck_k e9) (by decide) im_X12_gives sl_X12_gives lk_X12_200 rfl rfl rfl dX12_bench_12 (Nat.le_of_ble_eq_true rfl) ⟨Nat.le_of_ble_eq_true rfl, Nat.le_of_ble_eq_true rfl⟩ ⟨Nat.le_of_ble_eq_true rfl, Nat.le_of_ble_eq_true rfl⟩ ?_
  obtain rfl := so hf0
  exact r_iret C dX12_bench_15
def f_X12_clash_b2 (h : aH) (v0 : Nat) (v1 : Int32) : Option ((Int32) ⊕ ((Int32) ⊕ (Unit))) := (gR h 12 v0 0).bind fun t1 => (lI h t1 (6 : Int32)).bind fun t2 => if t2 ≤ v1 then some (.inr (.inr ())) else (ck h 12 v0).bind fun _ => (f_X12_benchBy h v0 (v1 + (1 : Int32))).bind fun t3 => if t3 = 0 then some (.inr (.inl v1)) else (some (v1 + (1 : Int32))).bind fun t4 => some (.inl t4)
def f_X12_clash_l2 (h : aH) (v0 : Nat) (v1 : Int32) : Option ((Int32) ⊕ (Unit)) := whileL wN (fun q : Int32 => f_X12_clash_b2 h v0 q) v1
def f_X12_clash (h : aH) (v0 : Nat) : Option (Int32 × aH) := (f_X12_clash_l2 h v0 (0 : Int32)).bind fun e => match e with | .inl t5 => (ck h 12 v0).bind fun _ => bd2 (f_X12_gives h v0 t5) fun t6 h7 => some (t6, h7) | .inr _ => (ck h 12 v0).bind fun _ => bd2 (f_X12_refuse h v0 (6 : Int32)) fun t8 h9 => some (t8, h9)
theorem s_X12_clash {h : aH} {v0 : Nat} {out : Int32 × aH} (hf0 : f_X12_clash h v0 = some out) : EV 3 yX12_clash cX12_clash 2 (some .int) h [.ref v0] (some (.int out.1)) out.2 0 0 := by
  refine EV.of (own := RX12) (lv0 := [(0, .ref v0)]) (by decide +kernel) rfl rfl (Nat.le_of_ble_eq_true rfl) ?_
  intro p l e s m args below meth c D cA B Hb C hin
  unfold f_X12_clash at hf0
  refine r_iconst (v := 0) C dX12_clash_0 (by decide) ?_
  refine r_istore_n (lv' := [(1, .int (0 : Int32)), (0, .ref v0)]) C dX12_clash_1 (by decide) rfl rfl ?_
  obtain ⟨y1, hl2, hf0⟩ := ob hf0
  have L2 : ∀ (n : Nat) (t2 : Int32), whileL n (fun q : Int32 => f_X12_clash_b2 h v0 q) t2 = some y1 → gW p l e (rmO 3 0 0) s m args below meth c (MQ below (eQ D cA B Hb out.2 (some (.int out.1))) args s 0 0 (fun q => B ≤ q)) D cA B Hb 2 h 2 [(0, .ref v0), (1, .int t2)] [] 0 0 := by
    intro n
    induction n with
    | zero => intro t2 hz; cases hz
    | succ n ih2 =>
      intro t2 hz
      obtain ⟨x2, hf1, hk2⟩ := wl hz
      replace hf1 : f_X12_clash_b2 h v0 t2 = some x2 := hf1
      unfold f_X12_clash_b2 at hf1
      refine r_iload_n C dX12_clash_2 rfl ?_
      refine r_aload_n C dX12_clash_3 rfl ?_
      obtain ⟨t3, e4, hf1⟩ := ob hf1
      refine r_getR C fk_X12_7 rfl dX12_clash_4 e4 ?_
      refine r_bipush (v := 6) C dX12_clash_7 (by decide) ?_
      obtain ⟨t5, e6, hf1⟩ := ob hf1
      refine r_ldI C dX12_clash_9 e6 ?_
      refine r_icmp_ge (tgt := 35) C dX12_clash_10 (by decide) (fun c7 => ?_) (fun c7 => ?_)
      · rw [if_pos c7] at hf1
        obtain rfl := so hf1
        obtain rfl := so (show some (.inr () : (Int32) ⊕ (Unit)) = some y1 from hk2)
        dsimp only at hf0
        refine r_aload_n C dX12_clash_35 rfl ?_
        refine r_bipush (v := 6) C dX12_clash_36 (by decide) ?_
        obtain ⟨u9, e8, hf0⟩ := ob hf0
        obtain ⟨t10, h11, e12, hf0⟩ := ob2 hf0
        refine r_cV (ci := 12) (rest := []) (st2 := [.int t10]) C (s_X12_refuse e12) mk_X12_refuse rfl (ck_k e8) (by decide) im_X12_refuse sl_X12_refuse lk_X12_197 rfl rfl rfl dX12_clash_38 (Nat.le_of_ble_eq_true rfl) ⟨Nat.le_of_ble_eq_true rfl, Nat.le_of_ble_eq_true rfl⟩ ⟨Nat.le_of_ble_eq_true rfl, Nat.le_of_ble_eq_true rfl⟩ ?_
        obtain rfl := so hf0
        exact r_iret C dX12_clash_41
      · rw [if_neg c7] at hf1
        refine r_aload_n C dX12_clash_13 rfl ?_
        refine r_iload_n C dX12_clash_14 rfl ?_
        refine r_iconst (v := 1) C dX12_clash_15 (by decide) ?_
        refine r_iadd C dX12_clash_16 ?_
        obtain ⟨u14, e13, hf1⟩ := ob hf1
        obtain ⟨t15, e16, hf1⟩ := ob hf1
        refine r_cV (ci := 12) (rest := []) (st2 := [.int t15]) C (s_X12_benchBy e16) mk_X12_benchBy rfl (ck_k e13) (by decide) im_X12_benchBy sl_X12_benchBy lk_X12_459 rfl rfl rfl dX12_clash_17 (Nat.le_of_ble_eq_true rfl) ⟨Nat.le_of_ble_eq_true rfl, Nat.le_of_ble_eq_true rfl⟩ ⟨Nat.le_of_ble_eq_true rfl, Nat.le_of_ble_eq_true rfl⟩ ?_
        refine r_ifne (tgt := 29) C dX12_clash_20 (by decide) (fun c17 => ?_) (fun c17 => ?_)
        · rw [if_neg c17] at hf1
          obtain ⟨t18, e19, hf1⟩ := ob hf1
          refine r_iinc (lv' := [(1, .int t18), (0, .ref v0)]) C dX12_clash_29 rfl e19 (by decide) rfl ?_
          refine r_goto (tgt := 2) C dX12_clash_32 (by decide) ?_
          obtain rfl := so hf1
          refine r_subk [1, 0] (lv' := [(0, .ref v0), (1, .int t18)]) rfl ?_
          exact ih2 t18 hk2
        · rw [if_pos c17] at hf1
          obtain rfl := so hf1
          obtain rfl := so (show some (.inl t2 : (Int32) ⊕ (Unit)) = some y1 from hk2)
          dsimp only at hf0
          refine r_aload_n C dX12_clash_23 rfl ?_
          refine r_iload_n C dX12_clash_24 rfl ?_
          obtain ⟨u21, e20, hf0⟩ := ob hf0
          obtain ⟨t22, h23, e24, hf0⟩ := ob2 hf0
          refine r_cV (ci := 12) (rest := []) (st2 := [.int t22]) C (s_X12_gives e24) mk_X12_gives rfl (ck_k e20) (by decide) im_X12_gives sl_X12_gives lk_X12_200 rfl rfl rfl dX12_clash_25 (Nat.le_of_ble_eq_true rfl) ⟨Nat.le_of_ble_eq_true rfl, Nat.le_of_ble_eq_true rfl⟩ ⟨Nat.le_of_ble_eq_true rfl, Nat.le_of_ble_eq_true rfl⟩ ?_
          obtain rfl := so hf0
          exact r_iret C dX12_clash_28
  refine r_subk [1, 0] (lv' := [(0, .ref v0), (1, .int (0 : Int32))]) rfl ?_
  exact L2 wN (0 : Int32) hl2
def f_X12_answersHonestly_j47 (h : aH) (v0 : Nat) (v1 : Int32) (v2 : Int32) (v3 : Int32) : Option ((Int32) ⊕ ((Unit) ⊕ (Unit))) := (some (v3 + (1 : Int32))).bind fun t1 => some (.inl t1)
def f_X12_answersHonestly_b2 (h : aH) (v0 : Nat) (v1 : Int32) (v2 : Int32) (v3 : Int32) : Option ((Int32) ⊕ ((Unit) ⊕ (Unit))) := (gR h 12 v0 0).bind fun t2 => (lI h t2 (6 : Int32)).bind fun t3 => if t3 ≤ v3 then some (.inr (.inr ())) else (ck h 12 v0).bind fun _ => (f_X12_ofHeard h v0 v3 (0 : Int32)).bind fun t4 => if t4 = v1 then (ck h 12 v0).bind fun _ => (f_X12_ofHeard h v0 v3 (1 : Int32)).bind fun t5 => (ck h 12 v0).bind fun _ => (f_X12_saysAs h v0 v1 t5 v2 (0 : Int32)).bind fun t6 => (ck h 12 v0).bind fun _ => (f_X12_ofHeard h v0 v3 (2 : Int32)).bind fun t7 => if t6 = t7 then f_X12_answersHonestly_j47 h v0 v1 v2 v3 else some (.inr (.inl ())) else f_X12_answersHonestly_j47 h v0 v1 v2 v3
def f_X12_answersHonestly_l2 (h : aH) (v0 : Nat) (v1 : Int32) (v2 : Int32) (v3 : Int32) : Option ((Unit) ⊕ (Unit)) := whileL wN (fun q : Int32 => f_X12_answersHonestly_b2 h v0 v1 v2 q) v3
def f_X12_answersHonestly (h : aH) (v0 : Nat) (v1 : Int32) (v2 : Int32) : Option (Int32) := (f_X12_answersHonestly_l2 h v0 v1 v2 (0 : Int32)).bind fun e => match e with | .inl _ => some (0 : Int32) | .inr _ => some (1 : Int32)
theorem s_X12_answersHonestly {h : aH} {v0 : Nat} {v1 : Int32} {v2 : Int32} {out : Int32} (hf0 : f_X12_answersHonestly h v0 v1 v2 = some out) : EV 1 yX12_answersHonestly cX12_answersHonestly 4 (some .boolean) h [.ref v0, .int v1, .int v2] (some (.int out)) h 0 0 := by
  refine EV.of (own := RX12) (lv0 := [(0, .ref v0), (1, .int v1), (2, .int v2)]) (by decide +kernel) rfl rfl (Nat.le_of_ble_eq_true rfl) ?_
  intro p l e s m args below meth c D cA B Hb C hin
  unfold f_X12_answersHonestly at hf0
  refine r_iconst (v := 0) C dX12_answersHonestly_0 (by decide) ?_
  refine r_istore_n (lv' := [(3, .int (0 : Int32)), (0, .ref v0), (1, .int v1), (2, .int v2)]) C dX12_answersHonestly_1 (by decide) rfl rfl ?_
  obtain ⟨y1, hl2, hf0⟩ := ob hf0
  have L2 : ∀ (n : Nat) (t2 : Int32), whileL n (fun q : Int32 => f_X12_answersHonestly_b2 h v0 v1 v2 q) t2 = some y1 → gW p l e (rmO 1 0 0) s m args below meth c (MQ below (eQ D cA B Hb h (some (.int out))) args s 0 0 (fun q => B ≤ q)) D cA B Hb 4 h 2 [(0, .ref v0), (1, .int v1), (2, .int v2), (3, .int t2)] [] 0 0 := by
    intro n
    induction n with
    | zero => intro t2 hz; cases hz
    | succ n ih2 =>
      intro t2 hz
      obtain ⟨x2, hf1, hk2⟩ := wl hz
      replace hf1 : f_X12_answersHonestly_b2 h v0 v1 v2 t2 = some x2 := hf1
      unfold f_X12_answersHonestly_b2 at hf1
      have J47 : ∀ (t3 : Int32), f_X12_answersHonestly_j47 h v0 v1 v2 t3 = some x2 → gW p l e (rmO 1 0 0) s m args below meth c (MQ below (eQ D cA B Hb h (some (.int out))) args s 0 0 (fun q => B ≤ q)) D cA B Hb 4 h 47 [(0, .ref v0), (1, .int v1), (2, .int v2), (3, .int t3)] [] 0 0 := by
        intro t3 hf1
        unfold f_X12_answersHonestly_j47 at hf1
        obtain ⟨t4, e5, hf1⟩ := ob hf1
        refine r_iinc (lv' := [(3, .int t4), (0, .ref v0), (1, .int v1), (2, .int v2)]) C dX12_answersHonestly_47 rfl e5 (by decide) rfl ?_
        refine r_goto (tgt := 2) C dX12_answersHonestly_50 (by decide) ?_
        obtain rfl := so hf1
        refine r_subk [1, 2, 3, 0] (lv' := [(0, .ref v0), (1, .int v1), (2, .int v2), (3, .int t4)]) rfl ?_
        exact ih2 t4 hk2
      refine r_iload_n C dX12_answersHonestly_2 rfl ?_
      refine r_aload_n C dX12_answersHonestly_3 rfl ?_
      obtain ⟨t6, e7, hf1⟩ := ob hf1
      refine r_getR C fk_X12_7 rfl dX12_answersHonestly_4 e7 ?_
      refine r_bipush (v := 6) C dX12_answersHonestly_7 (by decide) ?_
      obtain ⟨t8, e9, hf1⟩ := ob hf1
      refine r_ldI C dX12_answersHonestly_9 e9 ?_
      refine r_icmp_ge (tgt := 53) C dX12_answersHonestly_10 (by decide) (fun c10 => ?_) (fun c10 => ?_)
      · rw [if_pos c10] at hf1
        obtain rfl := so hf1
        obtain rfl := so (show some (.inr () : (Unit) ⊕ (Unit)) = some y1 from hk2)
        dsimp only at hf0
        refine r_iconst (v := 1) C dX12_answersHonestly_53 (by decide) ?_
        obtain rfl := so hf0
        exact r_zret C dX12_answersHonestly_54 (Or.inr rfl)
      · rw [if_neg c10] at hf1
        refine r_aload_n C dX12_answersHonestly_13 rfl ?_
        refine r_iload_n C dX12_answersHonestly_14 rfl ?_
        refine r_iconst (v := 0) C dX12_answersHonestly_15 (by decide) ?_
        obtain ⟨u12, e11, hf1⟩ := ob hf1
        obtain ⟨t13, e14, hf1⟩ := ob hf1
        refine r_cV (ci := 12) (rest := []) (st2 := [.int t13]) C (s_X12_ofHeard e14) mk_X12_ofHeard rfl (ck_k e11) (by decide) im_X12_ofHeard sl_X12_ofHeard lk_X12_322 rfl rfl rfl dX12_answersHonestly_16 (Nat.le_of_ble_eq_true rfl) ⟨Nat.le_of_ble_eq_true rfl, Nat.le_of_ble_eq_true rfl⟩ ⟨Nat.le_of_ble_eq_true rfl, Nat.le_of_ble_eq_true rfl⟩ ?_
        refine r_iload_n C dX12_answersHonestly_19 rfl ?_
        refine r_icmp_ne (tgt := 47) C dX12_answersHonestly_20 (by decide) (fun c15 => ?_) (fun c15 => ?_)
        · rw [if_neg c15] at hf1
          exact J47 t2 hf1
        · rw [if_pos c15] at hf1
          refine r_aload_n C dX12_answersHonestly_23 rfl ?_
          refine r_iload_n C dX12_answersHonestly_24 rfl ?_
          refine r_aload_n C dX12_answersHonestly_25 rfl ?_
          refine r_iload_n C dX12_answersHonestly_26 rfl ?_
          refine r_iconst (v := 1) C dX12_answersHonestly_27 (by decide) ?_
          obtain ⟨u17, e16, hf1⟩ := ob hf1
          obtain ⟨t18, e19, hf1⟩ := ob hf1
          refine r_cV (ci := 12) (rest := [.int v1, .ref v0]) (st2 := [.int t18, .int v1, .ref v0]) C (s_X12_ofHeard e19) mk_X12_ofHeard rfl (ck_k e16) (by decide) im_X12_ofHeard sl_X12_ofHeard lk_X12_322 rfl rfl rfl dX12_answersHonestly_28 (Nat.le_of_ble_eq_true rfl) ⟨Nat.le_of_ble_eq_true rfl, Nat.le_of_ble_eq_true rfl⟩ ⟨Nat.le_of_ble_eq_true rfl, Nat.le_of_ble_eq_true rfl⟩ ?_
          refine r_iload_n C dX12_answersHonestly_31 rfl ?_
          refine r_iconst (v := 0) C dX12_answersHonestly_32 (by decide) ?_
          obtain ⟨u21, e20, hf1⟩ := ob hf1
          obtain ⟨t22, e23, hf1⟩ := ob hf1
          refine r_cV (ci := 12) (rest := []) (st2 := [.int t22]) C (s_X12_saysAs e23) mk_X12_saysAs rfl (ck_k e20) (by decide) im_X12_saysAs sl_X12_saysAs lk_X12_368 rfl rfl rfl dX12_answersHonestly_33 (Nat.le_of_ble_eq_true rfl) ⟨Nat.le_of_ble_eq_true rfl, Nat.le_of_ble_eq_true rfl⟩ ⟨Nat.le_of_ble_eq_true rfl, Nat.le_of_ble_eq_true rfl⟩ ?_
          refine r_aload_n C dX12_answersHonestly_36 rfl ?_
          refine r_iload_n C dX12_answersHonestly_37 rfl ?_
          refine r_iconst (v := 2) C dX12_answersHonestly_38 (by decide) ?_
          obtain ⟨u25, e24, hf1⟩ := ob hf1
          obtain ⟨t26, e27, hf1⟩ := ob hf1
          refine r_cV (ci := 12) (rest := [.int t22]) (st2 := [.int t26, .int t22]) C (s_X12_ofHeard e27) mk_X12_ofHeard rfl (ck_k e24) (by decide) im_X12_ofHeard sl_X12_ofHeard lk_X12_322 rfl rfl rfl dX12_answersHonestly_39 (Nat.le_of_ble_eq_true rfl) ⟨Nat.le_of_ble_eq_true rfl, Nat.le_of_ble_eq_true rfl⟩ ⟨Nat.le_of_ble_eq_true rfl, Nat.le_of_ble_eq_true rfl⟩ ?_
          refine r_icmp_eq (tgt := 47) C dX12_answersHonestly_42 (by decide) (fun c28 => ?_) (fun c28 => ?_)
          · rw [if_pos c28] at hf1
            exact J47 t2 hf1
          · rw [if_neg c28] at hf1
            obtain rfl := so hf1
            obtain rfl := so (show some (.inl () : (Unit) ⊕ (Unit)) = some y1 from hk2)
            dsimp only at hf0
            refine r_iconst (v := 0) C dX12_answersHonestly_45 (by decide) ?_
            obtain rfl := so hf0
            exact r_zret C dX12_answersHonestly_46 (Or.inl rfl)
  refine r_subk [1, 2, 3, 0] (lv' := [(0, .ref v0), (1, .int v1), (2, .int v2), (3, .int (0 : Int32))]) rfl ?_
  exact L2 wN (0 : Int32) hl2
def f_X12_liars_j97 (h : aH) (v0 : Nat) (v2 : Int32) (s0 : Int32) (s1 : Int32) : Option ((Int32 × Int32) ⊕ (Int32)) := (some (s0 ||| s1)).bind fun t3 => (some (v2 + (1 : Int32))).bind fun t4 => some (.inl (t3, t4))
def f_X12_liars_j78 (h : aH) (v0 : Nat) (v1 : Int32) (v2 : Int32) (v4 : Int32) (s0 : Int32) : Option ((Int32 × Int32) ⊕ (Int32)) := (some (v4 + (1 : Int32))).bind fun t7 => some (.inl (s0, t7))
def f_X12_liars_j77 (h : aH) (v0 : Nat) (v1 : Int32) (v2 : Int32) (v4 : Int32) : Option ((Int32 × Int32) ⊕ (Int32)) := f_X12_liars_j78 h v0 v1 v2 v4 (0 : Int32)
def f_X12_liars_j73 (h : aH) (v0 : Nat) (v1 : Int32) (v2 : Int32) (v4 : Int32) : Option ((Int32 × Int32) ⊕ (Int32)) := f_X12_liars_j78 h v0 v1 v2 v4 (1 : Int32)
def f_X12_liars_b38 (h : aH) (v0 : Nat) (v1 : Int32) (v2 : Int32) (v3 : Int32) (v4 : Int32) : Option ((Int32 × Int32) ⊕ (Int32)) := (gR h 12 v0 0).bind fun t8 => (lI h t8 (2 : Int32)).bind fun t9 => if t9 ≤ v4 then some (.inr v3) else if v3 = 0 then (ck h 12 v0).bind fun _ => (f_X12_isLeftAt h v0 (0 : Int32) v4).bind fun t10 => if t10 = 0 then f_X12_liars_j77 h v0 v1 v2 v4 else (ck h 12 v0).bind fun _ => (f_X12_answersHonestly h v0 v2 v4).bind fun t11 => if t11 = 0 then f_X12_liars_j77 h v0 v1 v2 v4 else f_X12_liars_j73 h v0 v1 v2 v4 else f_X12_liars_j73 h v0 v1 v2 v4
def f_X12_liars_l38 (h : aH) (v0 : Nat) (v1 : Int32) (v2 : Int32) (v3 : Int32) (v4 : Int32) : Option (Int32) := whileL wN (fun q : Int32 × Int32 => f_X12_liars_b38 h v0 v1 v2 q.1 q.2) (v3, v4)
def f_X12_liars_b23 (h : aH) (v0 : Nat) (v1 : Int32) (v2 : Int32) : Option ((Int32 × Int32) ⊕ (Int32)) := (gR h 12 v0 0).bind fun t5 => (lI h t5 (4 : Int32)).bind fun t6 => if t6 ≤ v2 then some (.inr v1) else (f_X12_liars_l38 h v0 v1 v2 (0 : Int32) (0 : Int32)).bind fun t12 => if t12 = 0 then f_X12_liars_j97 h v0 v2 v1 ((1 : Int32) <<< (v2 &&& 31)) else f_X12_liars_j97 h v0 v2 v1 (0 : Int32)
def f_X12_liars_l23 (h : aH) (v0 : Nat) (v1 : Int32) (v2 : Int32) : Option (Int32) := whileL wN (fun q : Int32 × Int32 => f_X12_liars_b23 h v0 q.1 q.2) (v1, v2)
def f_X12_liars (h : aH) (v0 : Nat) : Option (Int32 × aH) := (ck h 12 v0).bind fun _ => (f_X12_fitsAll h v0).bind fun h1 => (ck h1 12 v0).bind fun _ => (f_X12_leftAt h1 v0 (0 : Int32)).bind fun t2 => if t2 = 0 then (ck h1 12 v0).bind fun _ => bd2 (f_X12_refuse h1 v0 (6 : Int32)) fun t16 h17 => some (t16, h17) else (f_X12_liars_l23 h1 v0 (0 : Int32) (0 : Int32)).bind fun t13 => (ck h1 12 v0).bind fun _ => bd2 (f_X12_gives h1 v0 t13) fun t14 h15 => some (t14, h15)
theorem s_X12_liars {h : aH} {v0 : Nat} {out : Int32 × aH} (hf0 : f_X12_liars h v0 = some out) : EV 4 yX12_liars cX12_liars 5 (some .int) h [.ref v0] (some (.int out.1)) out.2 0 0 := by
  refine EV.of (own := RX12) (lv0 := [(0, .ref v0)]) (by decide +kernel) rfl rfl (Nat.le_of_ble_eq_true rfl) ?_
  intro p l e s m args below meth c D cA B Hb C hin
  unfold f_X12_liars at hf0
  refine r_aload_n C dX12_liars_0 rfl ?_
  obtain ⟨u2, e1, hf0⟩ := ob hf0
  obtain ⟨h3, e4, hf0⟩ := ob hf0
  refine r_cV (ci := 12) (rest := []) (st2 := []) C (s_X12_fitsAll e4) mk_X12_fitsAll rfl (ck_k e1) (by decide) im_X12_fitsAll sl_X12_fitsAll lk_X12_388 rfl rfl rfl dX12_liars_1 (Nat.le_of_ble_eq_true rfl) ⟨Nat.le_of_ble_eq_true rfl, Nat.le_of_ble_eq_true rfl⟩ ⟨Nat.le_of_ble_eq_true rfl, Nat.le_of_ble_eq_true rfl⟩ ?_
  refine r_aload_n C dX12_liars_4 rfl ?_
  refine r_iconst (v := 0) C dX12_liars_5 (by decide) ?_
  obtain ⟨u6, e5, hf0⟩ := ob hf0
  obtain ⟨t7, e8, hf0⟩ := ob hf0
  refine r_cV (ci := 12) (rest := []) (st2 := [.int t7]) C (s_X12_leftAt e8) mk_X12_leftAt rfl (ck_k e5) (by decide) im_X12_leftAt sl_X12_leftAt lk_X12_391 rfl rfl rfl dX12_liars_6 (Nat.le_of_ble_eq_true rfl) ⟨Nat.le_of_ble_eq_true rfl, Nat.le_of_ble_eq_true rfl⟩ ⟨Nat.le_of_ble_eq_true rfl, Nat.le_of_ble_eq_true rfl⟩ ?_
  refine r_ifne (tgt := 19) C dX12_liars_9 (by decide) (fun c9 => ?_) (fun c9 => ?_)
  · rw [if_neg c9] at hf0
    refine r_iconst (v := 0) C dX12_liars_19 (by decide) ?_
    refine r_istore_n (lv' := [(1, .int (0 : Int32)), (0, .ref v0)]) C dX12_liars_20 (by decide) rfl rfl ?_
    refine r_iconst (v := 0) C dX12_liars_21 (by decide) ?_
    refine r_istore_n (lv' := [(2, .int (0 : Int32)), (1, .int (0 : Int32)), (0, .ref v0)]) C dX12_liars_22 (by decide) rfl rfl ?_
    obtain ⟨y10, hl23, hf0⟩ := ob hf0
    have L23 : ∀ (n : Nat) (t11 : Int32) (t12 : Int32), whileL n (fun q : Int32 × Int32 => f_X12_liars_b23 h3 v0 q.1 q.2) (t11, t12) = some y10 → gW p l e (rmO 4 0 0) s m args below meth c (MQ below (eQ D cA B Hb out.2 (some (.int out.1))) args s 0 0 (fun q => B ≤ q)) D cA B Hb 5 h3 23 [(0, .ref v0), (1, .int t11), (2, .int t12)] [] 0 0 := by
      intro n
      induction n with
      | zero => intro t11 t12 hz; cases hz
      | succ n ih23 =>
        intro t11 t12 hz
        obtain ⟨x23, hf1, hk23⟩ := wl hz
        replace hf1 : f_X12_liars_b23 h3 v0 t11 t12 = some x23 := hf1
        unfold f_X12_liars_b23 at hf1
        have J97 : ∀ (t13 : Int32) (t14 : Int32) (t15 : Int32), f_X12_liars_j97 h3 v0 t13 t14 t15 = some x23 → gW p l e (rmO 4 0 0) s m args below meth c (MQ below (eQ D cA B Hb out.2 (some (.int out.1))) args s 0 0 (fun q => B ≤ q)) D cA B Hb 5 h3 97 [(0, .ref v0), (2, .int t13)] [.int t15, .int t14] 0 0 := by
          intro t13 t14 t15 hf1
          unfold f_X12_liars_j97 at hf1
          refine r_ior C dX12_liars_97 ?_
          obtain ⟨t16, e17, hf1⟩ := ob hf1
          refine r_istore_n (lv' := [(1, .int t16), (0, .ref v0), (2, .int t13)]) C dX12_liars_98 (by decide) e17 rfl ?_
          obtain ⟨t18, e19, hf1⟩ := ob hf1
          refine r_iinc (lv' := [(2, .int t18), (1, .int t16), (0, .ref v0)]) C dX12_liars_99 rfl e19 (by decide) rfl ?_
          refine r_goto (tgt := 23) C dX12_liars_102 (by decide) ?_
          obtain rfl := so hf1
          refine r_subk [2, 1, 0] (lv' := [(0, .ref v0), (1, .int t16), (2, .int t18)]) rfl ?_
          exact ih23 t16 t18 hk23
        refine r_iload_n C dX12_liars_23 rfl ?_
        refine r_aload_n C dX12_liars_24 rfl ?_
        obtain ⟨t20, e21, hf1⟩ := ob hf1
        refine r_getR C fk_X12_7 rfl dX12_liars_25 e21 ?_
        refine r_iconst (v := 4) C dX12_liars_28 (by decide) ?_
        obtain ⟨t22, e23, hf1⟩ := ob hf1
        refine r_ldI C dX12_liars_29 e23 ?_
        refine r_icmp_ge (tgt := 105) C dX12_liars_30 (by decide) (fun c24 => ?_) (fun c24 => ?_)
        · rw [if_pos c24] at hf1
          obtain rfl := so hf1
          obtain rfl := so (show some t11 = some y10 from hk23)
          refine r_aload_n C dX12_liars_105 rfl ?_
          refine r_iload_n C dX12_liars_106 rfl ?_
          obtain ⟨u26, e25, hf0⟩ := ob hf0
          obtain ⟨t27, h28, e29, hf0⟩ := ob2 hf0
          refine r_cV (ci := 12) (rest := []) (st2 := [.int t27]) C (s_X12_gives e29) mk_X12_gives rfl (ck_k e25) (by decide) im_X12_gives sl_X12_gives lk_X12_200 rfl rfl rfl dX12_liars_107 (Nat.le_of_ble_eq_true rfl) ⟨Nat.le_of_ble_eq_true rfl, Nat.le_of_ble_eq_true rfl⟩ ⟨Nat.le_of_ble_eq_true rfl, Nat.le_of_ble_eq_true rfl⟩ ?_
          obtain rfl := so hf0
          exact r_iret C dX12_liars_110
        · rw [if_neg c24] at hf1
          refine r_iconst (v := 0) C dX12_liars_33 (by decide) ?_
          refine r_istore_n (lv' := [(3, .int (0 : Int32)), (0, .ref v0), (1, .int t11), (2, .int t12)]) C dX12_liars_34 (by decide) rfl rfl ?_
          refine r_iconst (v := 0) C dX12_liars_35 (by decide) ?_
          refine r_istore (lv' := [(4, .int (0 : Int32)), (3, .int (0 : Int32)), (0, .ref v0), (1, .int t11), (2, .int t12)]) C dX12_liars_36 (by decide) rfl rfl ?_
          obtain ⟨y30, hl38, hf1⟩ := ob hf1
          have L38 : ∀ (n : Nat) (t31 : Int32) (t32 : Int32), whileL n (fun q : Int32 × Int32 => f_X12_liars_b38 h3 v0 t11 t12 q.1 q.2) (t31, t32) = some y30 → gW p l e (rmO 4 0 0) s m args below meth c (MQ below (eQ D cA B Hb out.2 (some (.int out.1))) args s 0 0 (fun q => B ≤ q)) D cA B Hb 5 h3 38 [(0, .ref v0), (1, .int t11), (2, .int t12), (3, .int t31), (4, .int t32)] [] 0 0 := by
            intro n
            induction n with
            | zero => intro t31 t32 hz; cases hz
            | succ n ih38 =>
              intro t31 t32 hz
              obtain ⟨x38, hf2, hk38⟩ := wl hz
              replace hf2 : f_X12_liars_b38 h3 v0 t11 t12 t31 t32 = some x38 := hf2
              unfold f_X12_liars_b38 at hf2
              have J78 : ∀ (t33 : Int32) (t34 : Int32), f_X12_liars_j78 h3 v0 t11 t12 t33 t34 = some x38 → gW p l e (rmO 4 0 0) s m args below meth c (MQ below (eQ D cA B Hb out.2 (some (.int out.1))) args s 0 0 (fun q => B ≤ q)) D cA B Hb 5 h3 78 [(0, .ref v0), (1, .int t11), (2, .int t12), (4, .int t33)] [.int t34] 0 0 := by
                intro t33 t34 hf2
                unfold f_X12_liars_j78 at hf2
                refine r_istore_n (lv' := [(3, .int t34), (0, .ref v0), (1, .int t11), (2, .int t12), (4, .int t33)]) C dX12_liars_78 (by decide) rfl rfl ?_
                obtain ⟨t35, e36, hf2⟩ := ob hf2
                refine r_iinc (lv' := [(4, .int t35), (3, .int t34), (0, .ref v0), (1, .int t11), (2, .int t12)]) C dX12_liars_79 rfl e36 (by decide) rfl ?_
                refine r_goto (tgt := 38) C dX12_liars_82 (by decide) ?_
                obtain rfl := so hf2
                refine r_subk [2, 3, 4, 1, 0] (lv' := [(0, .ref v0), (1, .int t11), (2, .int t12), (3, .int t34), (4, .int t35)]) rfl ?_
                exact ih38 t34 t35 hk38
              have J77 : ∀ (t37 : Int32), f_X12_liars_j77 h3 v0 t11 t12 t37 = some x38 → gW p l e (rmO 4 0 0) s m args below meth c (MQ below (eQ D cA B Hb out.2 (some (.int out.1))) args s 0 0 (fun q => B ≤ q)) D cA B Hb 5 h3 77 [(0, .ref v0), (1, .int t11), (2, .int t12), (4, .int t37)] [] 0 0 := by
                intro t37 hf2
                unfold f_X12_liars_j77 at hf2
                refine r_iconst (v := 0) C dX12_liars_77 (by decide) ?_
                exact J78 t37 (0 : Int32) hf2
              have J73 : ∀ (t38 : Int32), f_X12_liars_j73 h3 v0 t11 t12 t38 = some x38 → gW p l e (rmO 4 0 0) s m args below meth c (MQ below (eQ D cA B Hb out.2 (some (.int out.1))) args s 0 0 (fun q => B ≤ q)) D cA B Hb 5 h3 73 [(0, .ref v0), (1, .int t11), (2, .int t12), (4, .int t38)] [] 0 0 := by
                intro t38 hf2
                unfold f_X12_liars_j73 at hf2
                refine r_iconst (v := 1) C dX12_liars_73 (by decide) ?_
                refine r_goto (tgt := 78) C dX12_liars_74 (by decide) ?_
                exact J78 t38 (1 : Int32) hf2
              refine r_iload C dX12_liars_38 rfl ?_
              refine r_aload_n C dX12_liars_40 rfl ?_
              obtain ⟨t39, e40, hf2⟩ := ob hf2
              refine r_getR C fk_X12_7 rfl dX12_liars_41 e40 ?_
              refine r_iconst (v := 2) C dX12_liars_44 (by decide) ?_
              obtain ⟨t41, e42, hf2⟩ := ob hf2
              refine r_ldI C dX12_liars_45 e42 ?_
              refine r_icmp_ge (tgt := 85) C dX12_liars_46 (by decide) (fun c43 => ?_) (fun c43 => ?_)
              · rw [if_pos c43] at hf2
                obtain rfl := so hf2
                obtain rfl := so (show some t31 = some y30 from hk38)
                refine r_iload_n C dX12_liars_85 rfl ?_
                refine r_iload_n C dX12_liars_86 rfl ?_
                refine r_ifeq (tgt := 94) C dX12_liars_87 (by decide) (fun c44 => ?_) (fun c44 => ?_)
                · rw [if_pos c44] at hf1
                  refine r_iconst (v := 1) C dX12_liars_94 (by decide) ?_
                  refine r_iload_n C dX12_liars_95 rfl ?_
                  refine r_ishl C dX12_liars_96 ?_
                  refine r_subk [0, 2] (lv' := [(0, .ref v0), (2, .int t12)]) rfl ?_
                  exact J97 t12 t11 ((1 : Int32) <<< (t12 &&& 31)) hf1
                · rw [if_neg c44] at hf1
                  refine r_iconst (v := 0) C dX12_liars_90 (by decide) ?_
                  refine r_goto (tgt := 97) C dX12_liars_91 (by decide) ?_
                  refine r_subk [0, 2] (lv' := [(0, .ref v0), (2, .int t12)]) rfl ?_
                  exact J97 t12 t11 (0 : Int32) hf1
              · rw [if_neg c43] at hf2
                refine r_iload_n C dX12_liars_49 rfl ?_
                refine r_ifne (tgt := 73) C dX12_liars_50 (by decide) (fun c45 => ?_) (fun c45 => ?_)
                · rw [if_neg c45] at hf2
                  refine r_subk [0, 1, 2, 4] (lv' := [(0, .ref v0), (1, .int t11), (2, .int t12), (4, .int t32)]) rfl ?_
                  exact J73 t32 hf2
                · rw [if_pos c45] at hf2
                  refine r_aload_n C dX12_liars_53 rfl ?_
                  refine r_iconst (v := 0) C dX12_liars_54 (by decide) ?_
                  refine r_iload C dX12_liars_55 rfl ?_
                  obtain ⟨u47, e46, hf2⟩ := ob hf2
                  obtain ⟨t48, e49, hf2⟩ := ob hf2
                  refine r_cV (ci := 12) (rest := []) (st2 := [.int t48]) C (s_X12_isLeftAt e49) mk_X12_isLeftAt rfl (ck_k e46) (by decide) im_X12_isLeftAt sl_X12_isLeftAt lk_X12_381 rfl rfl rfl dX12_liars_57 (Nat.le_of_ble_eq_true rfl) ⟨Nat.le_of_ble_eq_true rfl, Nat.le_of_ble_eq_true rfl⟩ ⟨Nat.le_of_ble_eq_true rfl, Nat.le_of_ble_eq_true rfl⟩ ?_
                  refine r_ifeq (tgt := 77) C dX12_liars_60 (by decide) (fun c50 => ?_) (fun c50 => ?_)
                  · rw [if_pos c50] at hf2
                    refine r_subk [0, 1, 2, 4] (lv' := [(0, .ref v0), (1, .int t11), (2, .int t12), (4, .int t32)]) rfl ?_
                    exact J77 t32 hf2
                  · rw [if_neg c50] at hf2
                    refine r_aload_n C dX12_liars_63 rfl ?_
                    refine r_iload_n C dX12_liars_64 rfl ?_
                    refine r_iload C dX12_liars_65 rfl ?_
                    obtain ⟨u52, e51, hf2⟩ := ob hf2
                    obtain ⟨t53, e54, hf2⟩ := ob hf2
                    refine r_cV (ci := 12) (rest := []) (st2 := [.int t53]) C (s_X12_answersHonestly e54) mk_X12_answersHonestly rfl (ck_k e51) (by decide) im_X12_answersHonestly sl_X12_answersHonestly lk_X12_462 rfl rfl rfl dX12_liars_67 (Nat.le_of_ble_eq_true rfl) ⟨Nat.le_of_ble_eq_true rfl, Nat.le_of_ble_eq_true rfl⟩ ⟨Nat.le_of_ble_eq_true rfl, Nat.le_of_ble_eq_true rfl⟩ ?_
                    refine r_ifeq (tgt := 77) C dX12_liars_70 (by decide) (fun c55 => ?_) (fun c55 => ?_)
                    · rw [if_pos c55] at hf2
                      refine r_subk [0, 1, 2, 4] (lv' := [(0, .ref v0), (1, .int t11), (2, .int t12), (4, .int t32)]) rfl ?_
                      exact J77 t32 hf2
                    · rw [if_neg c55] at hf2
                      refine r_subk [0, 1, 2, 4] (lv' := [(0, .ref v0), (1, .int t11), (2, .int t12), (4, .int t32)]) rfl ?_
                      exact J73 t32 hf2
          refine r_subk [2, 3, 4, 1, 0] (lv' := [(0, .ref v0), (1, .int t11), (2, .int t12), (3, .int (0 : Int32)), (4, .int (0 : Int32))]) rfl ?_
          exact L38 wN (0 : Int32) (0 : Int32) hl38
    refine r_subk [2, 1, 0] (lv' := [(0, .ref v0), (1, .int (0 : Int32)), (2, .int (0 : Int32))]) rfl ?_
    exact L23 wN (0 : Int32) (0 : Int32) hl23
  · rw [if_pos c9] at hf0
    refine r_aload_n C dX12_liars_12 rfl ?_
    refine r_bipush (v := 6) C dX12_liars_13 (by decide) ?_
    obtain ⟨u57, e56, hf0⟩ := ob hf0
    obtain ⟨t58, h59, e60, hf0⟩ := ob2 hf0
    refine r_cV (ci := 12) (rest := []) (st2 := [.int t58]) C (s_X12_refuse e60) mk_X12_refuse rfl (ck_k e56) (by decide) im_X12_refuse sl_X12_refuse lk_X12_197 rfl rfl rfl dX12_liars_15 (Nat.le_of_ble_eq_true rfl) ⟨Nat.le_of_ble_eq_true rfl, Nat.le_of_ble_eq_true rfl⟩ ⟨Nat.le_of_ble_eq_true rfl, Nat.le_of_ble_eq_true rfl⟩ ?_
    obtain rfl := so hf0
    exact r_iret C dX12_liars_18
def f_X12_draw (h : aH) (v0 : Nat) (v1 : Int64) : Option (Int32 × aH) := (gI h 12 v0 39).bind fun t1 => (nz (65536 : Int32)).bind fun _ => (pI h 12 v0 39 (((t1 * (2417 : Int32)) + (10613 : Int32)) - ((t1 * (2417 : Int32)) + (10613 : Int32)) / (65536 : Int32) * (65536 : Int32))).bind fun h2 => (gI h2 12 v0 39).bind fun t3 => (nz (8 : Int32)).bind fun _ => (nzL v1).bind fun _ => some (Int64.toInt32 ((Int32.toInt64 (t3 / (8 : Int32))) - (Int32.toInt64 (t3 / (8 : Int32))) / v1 * v1), h2)
theorem s_X12_draw {h : aH} {v0 : Nat} {v1 : Int64} {out : Int32 × aH} (hf0 : f_X12_draw h v0 v1 = some out) : EV 0 yX12_draw cX12_draw 3 (some .int) h [.ref v0, .long v1] (some (.int out.1)) out.2 0 0 := by
  refine EV.of (own := RX12) (lv0 := [(0, .ref v0), (1, .long v1)]) (by decide +kernel) rfl rfl (Nat.le_of_ble_eq_true rfl) ?_
  intro p l e s m args below meth c D cA B Hb C hin
  unfold f_X12_draw at hf0
  refine r_aload_n C dX12_draw_0 rfl ?_
  refine r_aload_n C dX12_draw_1 rfl ?_
  obtain ⟨t1, e2, hf0⟩ := ob hf0
  refine r_getI C fk_X12_465 rfl dX12_draw_2 e2 ?_
  refine r_sipush (v := 2417) C dX12_draw_5 (by decide) ?_
  refine r_imul C dX12_draw_8 ?_
  refine r_sipush (v := 10613) C dX12_draw_9 (by decide) ?_
  refine r_iadd C dX12_draw_12 ?_
  refine r_ldcw (v := 65536) C dX12_draw_13 cn_X12_468 ?_
  obtain ⟨u4, e3, hf0⟩ := ob hf0
  refine r_irem C dX12_draw_16 (nz_k e3) ?_
  obtain ⟨h5, e6, hf0⟩ := ob hf0
  refine r_putI C fk_X12_465 dX12_draw_17 e6 ?_
  refine r_aload_n C dX12_draw_20 rfl ?_
  obtain ⟨t7, e8, hf0⟩ := ob hf0
  refine r_getI C fk_X12_465 rfl dX12_draw_21 e8 ?_
  refine r_bipush (v := 8) C dX12_draw_24 (by decide) ?_
  obtain ⟨u10, e9, hf0⟩ := ob hf0
  refine r_idiv C dX12_draw_26 (nz_k e9) ?_
  refine r_i2l C dX12_draw_27 ?_
  refine r_lload_n C dX12_draw_28 rfl ?_
  obtain ⟨u12, e11, hf0⟩ := ob hf0
  refine r_lrem C dX12_draw_29 (nzL_k e11) ?_
  refine r_l2i C dX12_draw_30 ?_
  obtain rfl := so hf0
  exact r_iret C dX12_draw_31
def f_X12_drawsTruth_j32 (h : aH) (v0 : Nat) (v3 : Int32) (s0 : Int64) (s1 : Int64) : Option ((Int64 × Int32) ⊕ (Int64)) := (some (s0 + s1)).bind fun t1 => (some (v3 + (1 : Int32))).bind fun t2 => some (.inl (t1, t2))
def f_X12_drawsTruth_b4 (h : aH) (v0 : Nat) (v1 : Int64) (v3 : Int32) : Option ((Int64 × Int32) ⊕ (Int64)) := (gR h 12 v0 0).bind fun t3 => (lI h t3 (2 : Int32)).bind fun t4 => if t4 ≤ v3 then some (.inr v1) else (ck h 12 v0).bind fun _ => (f_X12_isPossible h v0 v3).bind fun t5 => if t5 = 0 then f_X12_drawsTruth_j32 h v0 v3 v1 (0 : Int64) else (ck h 12 v0).bind fun _ => (f_X12_weightOf h v0 v3).bind fun t6 => f_X12_drawsTruth_j32 h v0 v3 v1 t6
def f_X12_drawsTruth_l4 (h : aH) (v0 : Nat) (v1 : Int64) (v3 : Int32) : Option (Int64) := whileL wN (fun q : Int64 × Int32 => f_X12_drawsTruth_b4 h v0 q.1 q.2) (v1, v3)
def f_X12_drawsTruth_j87 (h : aH) (v0 : Nat) (v3 : Int32) (v6 : Int32) (s0 : Int64) (s1 : Int64) : Option ((Int64 × Int32 × aH) ⊕ (aH)) := (some (s0 + s1)).bind fun t10 => (some (v6 + (1 : Int32))).bind fun t11 => some (.inl (t10, t11, h))
def f_X12_drawsTruth_b52 (v0 : Nat) (v3 : Int32) (v4 : Int64) (v6 : Int32) (h : aH) : Option ((Int64 × Int32 × aH) ⊕ (aH)) := if 0 < (lg_cmp v4 (Int32.toInt64 v3)) then some (.inr h) else (pI h 12 v0 40 v6).bind fun h12 => (ck h12 12 v0).bind fun _ => (f_X12_isPossible h12 v0 v6).bind fun t13 => if t13 = 0 then f_X12_drawsTruth_j87 h12 v0 v3 v6 v4 (0 : Int64) else (ck h12 12 v0).bind fun _ => (f_X12_weightOf h12 v0 v6).bind fun t14 => f_X12_drawsTruth_j87 h12 v0 v3 v6 v4 t14
def f_X12_drawsTruth_l52 (v0 : Nat) (v3 : Int32) (v4 : Int64) (v6 : Int32) (h : aH) : Option (aH) := whileL wN (fun q : Int64 × Int32 × aH => f_X12_drawsTruth_b52 v0 v3 q.1 q.2.1 q.2.2) (v4, v6, h)
def f_X12_drawsTruth_b122 (h : aH) (v0 : Nat) (v6 : Int32) (v7 : Int32) (v8 : Int32) : Option ((Int32 × Int32) ⊕ (Int32)) := (ck h 12 v0).bind fun _ => (f_X12_ofWitness h v0 v6 v8).bind fun t20 => if v7 < t20 then some (.inr v8) else (ck h 12 v0).bind fun _ => (f_X12_ofWitness h v0 v6 v8).bind fun t21 => (some (v7 - t21)).bind fun t22 => (some (v8 + (1 : Int32))).bind fun t23 => some (.inl (t22, t23))
def f_X12_drawsTruth_l122 (h : aH) (v0 : Nat) (v6 : Int32) (v7 : Int32) (v8 : Int32) : Option (Int32) := whileL wN (fun q : Int32 × Int32 => f_X12_drawsTruth_b122 h v0 v6 q.1 q.2) (v7, v8)
def f_X12_drawsTruth_b99 (v0 : Nat) (v6 : Int32) (h : aH) : Option ((Int32 × aH) ⊕ (aH)) := (gR h 12 v0 0).bind fun t16 => (lI h t16 (4 : Int32)).bind fun t17 => if t17 ≤ v6 then some (.inr h) else (ck h 12 v0).bind fun _ => bd2 (f_X12_draw h v0 (16 : Int64)) fun t18 h19 => (f_X12_drawsTruth_l122 h19 v0 v6 t18 (0 : Int32)).bind fun t24 => (gR h19 12 v0 42).bind fun t25 => (sI h19 t25 v6 t24).bind fun h26 => (some (v6 + (1 : Int32))).bind fun t27 => some (.inl (t27, h26))
def f_X12_drawsTruth_l99 (v0 : Nat) (v6 : Int32) (h : aH) : Option (aH) := whileL wN (fun q : Int32 × aH => f_X12_drawsTruth_b99 v0 q.1 q.2) (v6, h)
def f_X12_drawsTruth (h : aH) (v0 : Nat) : Option (aH) := (f_X12_drawsTruth_l4 h v0 (0 : Int64) (0 : Int32)).bind fun t7 => (ck h 12 v0).bind fun _ => bd2 (f_X12_draw h v0 t7) fun t8 h9 => (f_X12_drawsTruth_l52 v0 t8 (0 : Int64) (0 : Int32) h9).bind fun h15 => (f_X12_drawsTruth_l99 v0 (0 : Int32) h15).bind fun h28 => some h28
theorem s_X12_drawsTruth {h : aH} {v0 : Nat} {out : aH} (hf0 : f_X12_drawsTruth h v0 = some out) : EV 2 yX12_drawsTruth cX12_drawsTruth 9 none h [.ref v0] none out 0 0 := by
  refine EV.of (own := RX12) (lv0 := [(0, .ref v0)]) (by decide +kernel) rfl rfl (Nat.le_of_ble_eq_true rfl) ?_
  intro p l e s m args below meth c D cA B Hb C hin
  unfold f_X12_drawsTruth at hf0
  refine r_lconst (v := 0) C dX12_drawsTruth_0 (by decide) ?_
  refine r_lstore_n (lv' := [(1, .long (0 : Int64)), (0, .ref v0)]) C dX12_drawsTruth_1 (by decide) rfl rfl ?_
  refine r_iconst (v := 0) C dX12_drawsTruth_2 (by decide) ?_
  refine r_istore_n (lv' := [(3, .int (0 : Int32)), (1, .long (0 : Int64)), (0, .ref v0)]) C dX12_drawsTruth_3 (by decide) rfl rfl ?_
  obtain ⟨y1, hl4, hf0⟩ := ob hf0
  have L4 : ∀ (n : Nat) (t2 : Int64) (t3 : Int32), whileL n (fun q : Int64 × Int32 => f_X12_drawsTruth_b4 h v0 q.1 q.2) (t2, t3) = some y1 → gW p l e (rmO 2 0 0) s m args below meth c (MQ below (eQ D cA B Hb out none) args s 0 0 (fun q => B ≤ q)) D cA B Hb 9 h 4 [(0, .ref v0), (1, .long t2), (3, .int t3)] [] 0 0 := by
    intro n
    induction n with
    | zero => intro t2 t3 hz; cases hz
    | succ n ih4 =>
      intro t2 t3 hz
      obtain ⟨x4, hf1, hk4⟩ := wl hz
      replace hf1 : f_X12_drawsTruth_b4 h v0 t2 t3 = some x4 := hf1
      unfold f_X12_drawsTruth_b4 at hf1
      have J32 : ∀ (t4 : Int32) (t5 : Int64) (t6 : Int64), f_X12_drawsTruth_j32 h v0 t4 t5 t6 = some x4 → gW p l e (rmO 2 0 0) s m args below meth c (MQ below (eQ D cA B Hb out none) args s 0 0 (fun q => B ≤ q)) D cA B Hb 9 h 32 [(0, .ref v0), (3, .int t4)] [.long t6, .long t5] 0 0 := by
        intro t4 t5 t6 hf1
        unfold f_X12_drawsTruth_j32 at hf1
        refine r_ladd C dX12_drawsTruth_32 ?_
        obtain ⟨t7, e8, hf1⟩ := ob hf1
        refine r_lstore_n (lv' := [(1, .long t7), (0, .ref v0), (3, .int t4)]) C dX12_drawsTruth_33 (by decide) e8 rfl ?_
        obtain ⟨t9, e10, hf1⟩ := ob hf1
        refine r_iinc (lv' := [(3, .int t9), (1, .long t7), (0, .ref v0)]) C dX12_drawsTruth_34 rfl e10 (by decide) rfl ?_
        refine r_goto (tgt := 4) C dX12_drawsTruth_37 (by decide) ?_
        obtain rfl := so hf1
        refine r_subk [2, 1, 0] (lv' := [(0, .ref v0), (1, .long t7), (3, .int t9)]) rfl ?_
        exact ih4 t7 t9 hk4
      refine r_iload_n C dX12_drawsTruth_4 rfl ?_
      refine r_aload_n C dX12_drawsTruth_5 rfl ?_
      obtain ⟨t11, e12, hf1⟩ := ob hf1
      refine r_getR C fk_X12_7 rfl dX12_drawsTruth_6 e12 ?_
      refine r_iconst (v := 2) C dX12_drawsTruth_9 (by decide) ?_
      obtain ⟨t13, e14, hf1⟩ := ob hf1
      refine r_ldI C dX12_drawsTruth_10 e14 ?_
      refine r_icmp_ge (tgt := 40) C dX12_drawsTruth_11 (by decide) (fun c15 => ?_) (fun c15 => ?_)
      · rw [if_pos c15] at hf1
        obtain rfl := so hf1
        obtain rfl := so (show some t2 = some y1 from hk4)
        refine r_aload_n C dX12_drawsTruth_40 rfl ?_
        refine r_lload_n C dX12_drawsTruth_41 rfl ?_
        obtain ⟨u17, e16, hf0⟩ := ob hf0
        obtain ⟨t18, h19, e20, hf0⟩ := ob2 hf0
        refine r_cV (ci := 12) (rest := []) (st2 := [.int t18]) C (s_X12_draw e20) mk_X12_draw rfl (ck_k e16) (by decide) im_X12_draw sl_X12_draw lk_X12_469 rfl rfl rfl dX12_drawsTruth_42 (Nat.le_of_ble_eq_true rfl) ⟨Nat.le_of_ble_eq_true rfl, Nat.le_of_ble_eq_true rfl⟩ ⟨Nat.le_of_ble_eq_true rfl, Nat.le_of_ble_eq_true rfl⟩ ?_
        refine r_istore_n (lv' := [(3, .int t18), (0, .ref v0), (1, .long t2)]) C dX12_drawsTruth_45 (by decide) rfl rfl ?_
        refine r_lconst (v := 0) C dX12_drawsTruth_46 (by decide) ?_
        refine r_lstore (lv' := [(4, .long (0 : Int64)), (3, .int t18), (0, .ref v0), (1, .long t2)]) C dX12_drawsTruth_47 (by decide) rfl rfl ?_
        refine r_iconst (v := 0) C dX12_drawsTruth_49 (by decide) ?_
        refine r_istore (lv' := [(6, .int (0 : Int32)), (4, .long (0 : Int64)), (3, .int t18), (0, .ref v0), (1, .long t2)]) C dX12_drawsTruth_50 (by decide) rfl rfl ?_
        obtain ⟨y21, hl52, hf0⟩ := ob hf0
        have L52 : ∀ (n : Nat) (t22 : Int64) (t23 : Int32) (h24 : aH), whileL n (fun q : Int64 × Int32 × aH => f_X12_drawsTruth_b52 v0 t18 q.1 q.2.1 q.2.2) (t22, t23, h24) = some y21 → gW p l e (rmO 2 0 0) s m args below meth c (MQ below (eQ D cA B Hb out none) args s 0 0 (fun q => B ≤ q)) D cA B Hb 9 h24 52 [(0, .ref v0), (3, .int t18), (4, .long t22), (6, .int t23)] [] 0 0 := by
          intro n
          induction n with
          | zero => intro t22 t23 h24 hz; cases hz
          | succ n ih52 =>
            intro t22 t23 h24 hz
            obtain ⟨x52, hf1, hk52⟩ := wl hz
            replace hf1 : f_X12_drawsTruth_b52 v0 t18 t22 t23 h24 = some x52 := hf1
            unfold f_X12_drawsTruth_b52 at hf1
            have J87 : ∀ (h25 : aH) (t26 : Int32) (t27 : Int64) (t28 : Int64), f_X12_drawsTruth_j87 h25 v0 t18 t26 t27 t28 = some x52 → gW p l e (rmO 2 0 0) s m args below meth c (MQ below (eQ D cA B Hb out none) args s 0 0 (fun q => B ≤ q)) D cA B Hb 9 h25 87 [(0, .ref v0), (3, .int t18), (6, .int t26)] [.long t28, .long t27] 0 0 := by
              intro h25 t26 t27 t28 hf1
              unfold f_X12_drawsTruth_j87 at hf1
              refine r_ladd C dX12_drawsTruth_87 ?_
              obtain ⟨t29, e30, hf1⟩ := ob hf1
              refine r_lstore (lv' := [(4, .long t29), (0, .ref v0), (3, .int t18), (6, .int t26)]) C dX12_drawsTruth_88 (by decide) e30 rfl ?_
              obtain ⟨t31, e32, hf1⟩ := ob hf1
              refine r_iinc (lv' := [(6, .int t31), (4, .long t29), (0, .ref v0), (3, .int t18)]) C dX12_drawsTruth_90 rfl e32 (by decide) rfl ?_
              refine r_goto (tgt := 52) C dX12_drawsTruth_93 (by decide) ?_
              obtain rfl := so hf1
              refine r_subk [2, 3, 1, 0] (lv' := [(0, .ref v0), (3, .int t18), (4, .long t29), (6, .int t31)]) rfl ?_
              exact ih52 t29 t31 h25 hk52
            refine r_lload C dX12_drawsTruth_52 rfl ?_
            refine r_iload_n C dX12_drawsTruth_54 rfl ?_
            refine r_i2l C dX12_drawsTruth_55 ?_
            refine r_lcmp C dX12_drawsTruth_56 ?_
            refine r_ifgt (tgt := 96) C dX12_drawsTruth_57 (by decide) (fun c33 => ?_) (fun c33 => ?_)
            · rw [if_pos c33] at hf1
              obtain rfl := so hf1
              obtain rfl := so (show some h24 = some y21 from hk52)
              refine r_iconst (v := 0) C dX12_drawsTruth_96 (by decide) ?_
              refine r_istore (lv' := [(6, .int (0 : Int32)), (0, .ref v0), (3, .int t18), (4, .long t22)]) C dX12_drawsTruth_97 (by decide) rfl rfl ?_
              obtain ⟨y34, hl99, hf0⟩ := ob hf0
              have L99 : ∀ (n : Nat) (t35 : Int32) (h36 : aH), whileL n (fun q : Int32 × aH => f_X12_drawsTruth_b99 v0 q.1 q.2) (t35, h36) = some y34 → gW p l e (rmO 2 0 0) s m args below meth c (MQ below (eQ D cA B Hb out none) args s 0 0 (fun q => B ≤ q)) D cA B Hb 9 h36 99 [(0, .ref v0), (6, .int t35)] [] 0 0 := by
                intro n
                induction n with
                | zero => intro t35 h36 hz; cases hz
                | succ n ih99 =>
                  intro t35 h36 hz
                  obtain ⟨x99, hf1, hk99⟩ := wl hz
                  replace hf1 : f_X12_drawsTruth_b99 v0 t35 h36 = some x99 := hf1
                  unfold f_X12_drawsTruth_b99 at hf1
                  refine r_iload C dX12_drawsTruth_99 rfl ?_
                  refine r_aload_n C dX12_drawsTruth_101 rfl ?_
                  obtain ⟨t37, e38, hf1⟩ := ob hf1
                  refine r_getR C fk_X12_7 rfl dX12_drawsTruth_102 e38 ?_
                  refine r_iconst (v := 4) C dX12_drawsTruth_105 (by decide) ?_
                  obtain ⟨t39, e40, hf1⟩ := ob hf1
                  refine r_ldI C dX12_drawsTruth_106 e40 ?_
                  refine r_icmp_ge (tgt := 169) C dX12_drawsTruth_107 (by decide) (fun c41 => ?_) (fun c41 => ?_)
                  · rw [if_pos c41] at hf1
                    obtain rfl := so hf1
                    obtain rfl := so (show some h36 = some y34 from hk99)
                    obtain rfl := so hf0
                    exact r_vret C dX12_drawsTruth_169
                  · rw [if_neg c41] at hf1
                    refine r_aload_n C dX12_drawsTruth_110 rfl ?_
                    refine r_ldc2 (v := 16) C dX12_drawsTruth_111 cl_X12_476 ?_
                    obtain ⟨u43, e42, hf1⟩ := ob hf1
                    obtain ⟨t44, h45, e46, hf1⟩ := ob2 hf1
                    refine r_cV (ci := 12) (rest := []) (st2 := [.int t44]) C (s_X12_draw e46) mk_X12_draw rfl (ck_k e42) (by decide) im_X12_draw sl_X12_draw lk_X12_469 rfl rfl rfl dX12_drawsTruth_114 (Nat.le_of_ble_eq_true rfl) ⟨Nat.le_of_ble_eq_true rfl, Nat.le_of_ble_eq_true rfl⟩ ⟨Nat.le_of_ble_eq_true rfl, Nat.le_of_ble_eq_true rfl⟩ ?_
                    refine r_istore (lv' := [(7, .int t44), (0, .ref v0), (6, .int t35)]) C dX12_drawsTruth_117 (by decide) rfl rfl ?_
                    refine r_iconst (v := 0) C dX12_drawsTruth_119 (by decide) ?_
                    refine r_istore (lv' := [(8, .int (0 : Int32)), (7, .int t44), (0, .ref v0), (6, .int t35)]) C dX12_drawsTruth_120 (by decide) rfl rfl ?_
                    obtain ⟨y47, hl122, hf1⟩ := ob hf1
                    have L122 : ∀ (n : Nat) (t48 : Int32) (t49 : Int32), whileL n (fun q : Int32 × Int32 => f_X12_drawsTruth_b122 h45 v0 t35 q.1 q.2) (t48, t49) = some y47 → gW p l e (rmO 2 0 0) s m args below meth c (MQ below (eQ D cA B Hb out none) args s 0 0 (fun q => B ≤ q)) D cA B Hb 9 h45 122 [(0, .ref v0), (6, .int t35), (7, .int t48), (8, .int t49)] [] 0 0 := by
                      intro n
                      induction n with
                      | zero => intro t48 t49 hz; cases hz
                      | succ n ih122 =>
                        intro t48 t49 hz
                        obtain ⟨x122, hf2, hk122⟩ := wl hz
                        replace hf2 : f_X12_drawsTruth_b122 h45 v0 t35 t48 t49 = some x122 := hf2
                        unfold f_X12_drawsTruth_b122 at hf2
                        refine r_iload C dX12_drawsTruth_122 rfl ?_
                        refine r_aload_n C dX12_drawsTruth_124 rfl ?_
                        refine r_iload C dX12_drawsTruth_125 rfl ?_
                        refine r_iload C dX12_drawsTruth_127 rfl ?_
                        obtain ⟨u51, e50, hf2⟩ := ob hf2
                        obtain ⟨t52, e53, hf2⟩ := ob hf2
                        refine r_cV (ci := 12) (rest := [.int t48]) (st2 := [.int t52, .int t48]) C (s_X12_ofWitness e53) mk_X12_ofWitness rfl (ck_k e50) (by decide) im_X12_ofWitness sl_X12_ofWitness lk_X12_343 rfl rfl rfl dX12_drawsTruth_129 (Nat.le_of_ble_eq_true rfl) ⟨Nat.le_of_ble_eq_true rfl, Nat.le_of_ble_eq_true rfl⟩ ⟨Nat.le_of_ble_eq_true rfl, Nat.le_of_ble_eq_true rfl⟩ ?_
                        refine r_icmp_lt (tgt := 154) C dX12_drawsTruth_132 (by decide) (fun c54 => ?_) (fun c54 => ?_)
                        · rw [if_pos c54] at hf2
                          obtain rfl := so hf2
                          obtain rfl := so (show some t49 = some y47 from hk122)
                          refine r_aload_n C dX12_drawsTruth_154 rfl ?_
                          obtain ⟨t55, e56, hf1⟩ := ob hf1
                          refine r_getR C fk_X12_82 rfl dX12_drawsTruth_155 e56 ?_
                          refine r_iload C dX12_drawsTruth_158 rfl ?_
                          refine r_iload C dX12_drawsTruth_160 rfl ?_
                          obtain ⟨h57, e58, hf1⟩ := ob hf1
                          refine r_stI C dX12_drawsTruth_162 e58 ?_
                          obtain ⟨t59, e60, hf1⟩ := ob hf1
                          refine r_iinc (lv' := [(6, .int t59), (0, .ref v0), (7, .int t48), (8, .int t49)]) C dX12_drawsTruth_163 rfl e60 (by decide) rfl ?_
                          refine r_goto (tgt := 99) C dX12_drawsTruth_166 (by decide) ?_
                          obtain rfl := so hf1
                          refine r_subk [1, 0] (lv' := [(0, .ref v0), (6, .int t59)]) rfl ?_
                          exact ih99 t59 h57 hk99
                        · rw [if_neg c54] at hf2
                          refine r_iload C dX12_drawsTruth_135 rfl ?_
                          refine r_aload_n C dX12_drawsTruth_137 rfl ?_
                          refine r_iload C dX12_drawsTruth_138 rfl ?_
                          refine r_iload C dX12_drawsTruth_140 rfl ?_
                          obtain ⟨u62, e61, hf2⟩ := ob hf2
                          obtain ⟨t63, e64, hf2⟩ := ob hf2
                          refine r_cV (ci := 12) (rest := [.int t48]) (st2 := [.int t63, .int t48]) C (s_X12_ofWitness e64) mk_X12_ofWitness rfl (ck_k e61) (by decide) im_X12_ofWitness sl_X12_ofWitness lk_X12_343 rfl rfl rfl dX12_drawsTruth_142 (Nat.le_of_ble_eq_true rfl) ⟨Nat.le_of_ble_eq_true rfl, Nat.le_of_ble_eq_true rfl⟩ ⟨Nat.le_of_ble_eq_true rfl, Nat.le_of_ble_eq_true rfl⟩ ?_
                          refine r_isub C dX12_drawsTruth_145 ?_
                          obtain ⟨t65, e66, hf2⟩ := ob hf2
                          refine r_istore (lv' := [(7, .int t65), (0, .ref v0), (6, .int t35), (8, .int t49)]) C dX12_drawsTruth_146 (by decide) e66 rfl ?_
                          obtain ⟨t67, e68, hf2⟩ := ob hf2
                          refine r_iinc (lv' := [(8, .int t67), (7, .int t65), (0, .ref v0), (6, .int t35)]) C dX12_drawsTruth_148 rfl e68 (by decide) rfl ?_
                          refine r_goto (tgt := 122) C dX12_drawsTruth_151 (by decide) ?_
                          obtain rfl := so hf2
                          refine r_subk [2, 3, 1, 0] (lv' := [(0, .ref v0), (6, .int t35), (7, .int t65), (8, .int t67)]) rfl ?_
                          exact ih122 t65 t67 hk122
                    refine r_subk [2, 3, 1, 0] (lv' := [(0, .ref v0), (6, .int t35), (7, .int t44), (8, .int (0 : Int32))]) rfl ?_
                    exact L122 wN t44 (0 : Int32) hl122
              refine r_subk [1, 0] (lv' := [(0, .ref v0), (6, .int (0 : Int32))]) rfl ?_
              exact L99 wN (0 : Int32) h24 hl99
            · rw [if_neg c33] at hf1
              refine r_aload_n C dX12_drawsTruth_60 rfl ?_
              refine r_iload C dX12_drawsTruth_61 rfl ?_
              obtain ⟨h69, e70, hf1⟩ := ob hf1
              refine r_putI C fk_X12_473 dX12_drawsTruth_63 e70 ?_
              refine r_lload C dX12_drawsTruth_66 rfl ?_
              refine r_aload_n C dX12_drawsTruth_68 rfl ?_
              refine r_iload C dX12_drawsTruth_69 rfl ?_
              obtain ⟨u72, e71, hf1⟩ := ob hf1
              obtain ⟨t73, e74, hf1⟩ := ob hf1
              refine r_cV (ci := 12) (rest := [.long t22]) (st2 := [.int t73, .long t22]) C (s_X12_isPossible e74) mk_X12_isPossible rfl (ck_k e71) (by decide) im_X12_isPossible sl_X12_isPossible lk_X12_331 rfl rfl rfl dX12_drawsTruth_71 (Nat.le_of_ble_eq_true rfl) ⟨Nat.le_of_ble_eq_true rfl, Nat.le_of_ble_eq_true rfl⟩ ⟨Nat.le_of_ble_eq_true rfl, Nat.le_of_ble_eq_true rfl⟩ ?_
              refine r_ifeq (tgt := 86) C dX12_drawsTruth_74 (by decide) (fun c75 => ?_) (fun c75 => ?_)
              · rw [if_pos c75] at hf1
                refine r_lconst (v := 0) C dX12_drawsTruth_86 (by decide) ?_
                refine r_subk [0, 1, 3] (lv' := [(0, .ref v0), (3, .int t18), (6, .int t23)]) rfl ?_
                exact J87 h69 t23 t22 (0 : Int64) hf1
              · rw [if_neg c75] at hf1
                refine r_aload_n C dX12_drawsTruth_77 rfl ?_
                refine r_iload C dX12_drawsTruth_78 rfl ?_
                obtain ⟨u77, e76, hf1⟩ := ob hf1
                obtain ⟨t78, e79, hf1⟩ := ob hf1
                refine r_cV (ci := 12) (rest := [.long t22]) (st2 := [.long t78, .long t22]) C (s_X12_weightOf e79) mk_X12_weightOf rfl (ck_k e76) (by decide) im_X12_weightOf sl_X12_weightOf lk_X12_397 rfl rfl rfl dX12_drawsTruth_80 (Nat.le_of_ble_eq_true rfl) ⟨Nat.le_of_ble_eq_true rfl, Nat.le_of_ble_eq_true rfl⟩ ⟨Nat.le_of_ble_eq_true rfl, Nat.le_of_ble_eq_true rfl⟩ ?_
                refine r_goto (tgt := 87) C dX12_drawsTruth_83 (by decide) ?_
                refine r_subk [0, 1, 3] (lv' := [(0, .ref v0), (3, .int t18), (6, .int t23)]) rfl ?_
                exact J87 h69 t23 t22 t78 hf1
        refine r_subk [3, 2, 1, 0] (lv' := [(0, .ref v0), (3, .int t18), (4, .long (0 : Int64)), (6, .int (0 : Int32))]) rfl ?_
        exact L52 wN (0 : Int64) (0 : Int32) h19 hl52
      · rw [if_neg c15] at hf1
        refine r_lload_n C dX12_drawsTruth_14 rfl ?_
        refine r_aload_n C dX12_drawsTruth_15 rfl ?_
        refine r_iload_n C dX12_drawsTruth_16 rfl ?_
        obtain ⟨u81, e80, hf1⟩ := ob hf1
        obtain ⟨t82, e83, hf1⟩ := ob hf1
        refine r_cV (ci := 12) (rest := [.long t2]) (st2 := [.int t82, .long t2]) C (s_X12_isPossible e83) mk_X12_isPossible rfl (ck_k e80) (by decide) im_X12_isPossible sl_X12_isPossible lk_X12_331 rfl rfl rfl dX12_drawsTruth_17 (Nat.le_of_ble_eq_true rfl) ⟨Nat.le_of_ble_eq_true rfl, Nat.le_of_ble_eq_true rfl⟩ ⟨Nat.le_of_ble_eq_true rfl, Nat.le_of_ble_eq_true rfl⟩ ?_
        refine r_ifeq (tgt := 31) C dX12_drawsTruth_20 (by decide) (fun c84 => ?_) (fun c84 => ?_)
        · rw [if_pos c84] at hf1
          refine r_lconst (v := 0) C dX12_drawsTruth_31 (by decide) ?_
          refine r_subk [0, 2] (lv' := [(0, .ref v0), (3, .int t3)]) rfl ?_
          exact J32 t3 t2 (0 : Int64) hf1
        · rw [if_neg c84] at hf1
          refine r_aload_n C dX12_drawsTruth_23 rfl ?_
          refine r_iload_n C dX12_drawsTruth_24 rfl ?_
          obtain ⟨u86, e85, hf1⟩ := ob hf1
          obtain ⟨t87, e88, hf1⟩ := ob hf1
          refine r_cV (ci := 12) (rest := [.long t2]) (st2 := [.long t87, .long t2]) C (s_X12_weightOf e88) mk_X12_weightOf rfl (ck_k e85) (by decide) im_X12_weightOf sl_X12_weightOf lk_X12_397 rfl rfl rfl dX12_drawsTruth_25 (Nat.le_of_ble_eq_true rfl) ⟨Nat.le_of_ble_eq_true rfl, Nat.le_of_ble_eq_true rfl⟩ ⟨Nat.le_of_ble_eq_true rfl, Nat.le_of_ble_eq_true rfl⟩ ?_
          refine r_goto (tgt := 32) C dX12_drawsTruth_28 (by decide) ?_
          refine r_subk [0, 2] (lv' := [(0, .ref v0), (3, .int t3)]) rfl ?_
          exact J32 t3 t2 t87 hf1
  refine r_subk [2, 1, 0] (lv' := [(0, .ref v0), (1, .long (0 : Int64)), (3, .int (0 : Int32))]) rfl ?_
  exact L4 wN (0 : Int64) (0 : Int32) hl4
def f_X12_puts (h : aH) (v0 : Nat) (v1 : Int32) (v2 : Int32) : Option (aH) := (ck h 12 v0).bind fun _ => (f_X12_fitsAll h v0).bind fun h1 => if v2 = (-1 : Int32) then some h1 else (gR h1 12 v0 35).bind fun t2 => (lZ h1 t2 v2).bind fun t3 => if t3 = 0 then (ck h1 12 v0).bind fun _ => (f_X12_putToday h1 v0).bind fun t4 => if t4 = (9 : Int32) then some h1 else (gI h1 12 v0 40).bind fun t5 => (gR h1 12 v0 42).bind fun t6 => (lI h1 t6 v1).bind fun t7 => (ck h1 12 v0).bind fun _ => (f_X12_saysAs h1 v0 v1 v2 t5 t7).bind fun t8 => (ck h1 12 v0).bind fun _ => (f_X12_hears h1 v0 v1 v2 t8).bind fun h9 => some h9 else some h1
theorem s_X12_puts {h : aH} {v0 : Nat} {v1 : Int32} {v2 : Int32} {out : aH} (hf0 : f_X12_puts h v0 v1 v2 = some out) : EV 4 yX12_puts cX12_puts 3 none h [.ref v0, .int v1, .int v2] none out 0 0 := by
  refine EV.of (own := RX12) (lv0 := [(0, .ref v0), (1, .int v1), (2, .int v2)]) (by decide +kernel) rfl rfl (Nat.le_of_ble_eq_true rfl) ?_
  intro p l e s m args below meth c D cA B Hb C hin
  unfold f_X12_puts at hf0
  refine r_aload_n C dX12_puts_0 rfl ?_
  obtain ⟨u2, e1, hf0⟩ := ob hf0
  obtain ⟨h3, e4, hf0⟩ := ob hf0
  refine r_cV (ci := 12) (rest := []) (st2 := []) C (s_X12_fitsAll e4) mk_X12_fitsAll rfl (ck_k e1) (by decide) im_X12_fitsAll sl_X12_fitsAll lk_X12_388 rfl rfl rfl dX12_puts_1 (Nat.le_of_ble_eq_true rfl) ⟨Nat.le_of_ble_eq_true rfl, Nat.le_of_ble_eq_true rfl⟩ ⟨Nat.le_of_ble_eq_true rfl, Nat.le_of_ble_eq_true rfl⟩ ?_
  refine r_iload_n C dX12_puts_4 rfl ?_
  refine r_iconst (v := -1) C dX12_puts_5 (by decide) ?_
  refine r_icmp_eq (tgt := 27) C dX12_puts_6 (by decide) (fun c5 => ?_) (fun c5 => ?_)
  · rw [if_pos c5] at hf0
    obtain rfl := so hf0
    exact r_vret C dX12_puts_27
  · rw [if_neg c5] at hf0
    refine r_aload_n C dX12_puts_9 rfl ?_
    obtain ⟨t6, e7, hf0⟩ := ob hf0
    refine r_getR C fk_X12_72 rfl dX12_puts_10 e7 ?_
    refine r_iload_n C dX12_puts_13 rfl ?_
    obtain ⟨t8, e9, hf0⟩ := ob hf0
    refine r_ldZ C dX12_puts_14 e9 ?_
    refine r_ifne (tgt := 27) C dX12_puts_15 (by decide) (fun c10 => ?_) (fun c10 => ?_)
    · rw [if_neg c10] at hf0
      obtain rfl := so hf0
      exact r_vret C dX12_puts_27
    · rw [if_pos c10] at hf0
      refine r_aload_n C dX12_puts_18 rfl ?_
      obtain ⟨u12, e11, hf0⟩ := ob hf0
      obtain ⟨t13, e14, hf0⟩ := ob hf0
      refine r_cV (ci := 12) (rest := []) (st2 := [.int t13]) C (s_X12_putToday e14) mk_X12_putToday rfl (ck_k e11) (by decide) im_X12_putToday sl_X12_putToday lk_X12_325 rfl rfl rfl dX12_puts_19 (Nat.le_of_ble_eq_true rfl) ⟨Nat.le_of_ble_eq_true rfl, Nat.le_of_ble_eq_true rfl⟩ ⟨Nat.le_of_ble_eq_true rfl, Nat.le_of_ble_eq_true rfl⟩ ?_
      refine r_bipush (v := 9) C dX12_puts_22 (by decide) ?_
      refine r_icmp_ne (tgt := 28) C dX12_puts_24 (by decide) (fun c15 => ?_) (fun c15 => ?_)
      · rw [if_neg c15] at hf0
        refine r_aload_n C dX12_puts_28 rfl ?_
        refine r_iload_n C dX12_puts_29 rfl ?_
        refine r_iload_n C dX12_puts_30 rfl ?_
        refine r_aload_n C dX12_puts_31 rfl ?_
        refine r_iload_n C dX12_puts_32 rfl ?_
        refine r_iload_n C dX12_puts_33 rfl ?_
        refine r_aload_n C dX12_puts_34 rfl ?_
        obtain ⟨t16, e17, hf0⟩ := ob hf0
        refine r_getI C fk_X12_473 rfl dX12_puts_35 e17 ?_
        refine r_aload_n C dX12_puts_38 rfl ?_
        obtain ⟨t18, e19, hf0⟩ := ob hf0
        refine r_getR C fk_X12_82 rfl dX12_puts_39 e19 ?_
        refine r_iload_n C dX12_puts_42 rfl ?_
        obtain ⟨t20, e21, hf0⟩ := ob hf0
        refine r_ldI C dX12_puts_43 e21 ?_
        obtain ⟨u23, e22, hf0⟩ := ob hf0
        obtain ⟨t24, e25, hf0⟩ := ob hf0
        refine r_cV (ci := 12) (rest := [.int v2, .int v1, .ref v0]) (st2 := [.int t24, .int v2, .int v1, .ref v0]) C (s_X12_saysAs e25) mk_X12_saysAs rfl (ck_k e22) (by decide) im_X12_saysAs sl_X12_saysAs lk_X12_368 rfl rfl rfl dX12_puts_44 (Nat.le_of_ble_eq_true rfl) ⟨Nat.le_of_ble_eq_true rfl, Nat.le_of_ble_eq_true rfl⟩ ⟨Nat.le_of_ble_eq_true rfl, Nat.le_of_ble_eq_true rfl⟩ ?_
        obtain ⟨u27, e26, hf0⟩ := ob hf0
        obtain ⟨h28, e29, hf0⟩ := ob hf0
        refine r_cV (ci := 12) (rest := []) (st2 := []) C (s_X12_hears e29) mk_X12_hears rfl (ck_k e26) (by decide) im_X12_hears sl_X12_hears lk_X12_384 rfl rfl rfl dX12_puts_47 (Nat.le_of_ble_eq_true rfl) ⟨Nat.le_of_ble_eq_true rfl, Nat.le_of_ble_eq_true rfl⟩ ⟨Nat.le_of_ble_eq_true rfl, Nat.le_of_ble_eq_true rfl⟩ ?_
        obtain rfl := so hf0
        exact r_vret C dX12_puts_50
      · rw [if_pos c15] at hf0
        obtain rfl := so hf0
        exact r_vret C dX12_puts_27
def f_X12_holdsNow_j63 (h : aH) (v2 : Int32) (s0 : Int32) : Option (Int32 × aH) := if v2 = (22 : Int32) then if s0 = (-1 : Int32) then some ((0 : Int32), h) else some ((1 : Int32), h) else if v2 = (23 : Int32) then if s0 = (1 : Int32) then some ((1 : Int32), h) else some ((0 : Int32), h) else if s0 = 0 then some ((1 : Int32), h) else some ((0 : Int32), h)
def f_X12_holdsNow (h : aH) (v0 : Nat) (v1 : Int32) : Option (Int32 × aH) := (ck h 12 v0).bind fun _ => (f_X12_fitsAll h v0).bind fun h1 => (gR h1 12 v0 0).bind fun t2 => (lI h1 t2 v1).bind fun t3 => (some (t3 - (2100 : Int32))).bind fun t4 => (gR h1 12 v0 0).bind fun t5 => (lI h1 t5 (v1 + (1 : Int32))).bind fun t6 => if t4 = (25 : Int32) then (ck h1 12 v0).bind fun _ => (f_X12_leftAt h1 v0 (0 : Int32)).bind fun t9 => if t6 < t9 then some ((0 : Int32), h1) else some ((1 : Int32), h1) else (ck h1 12 v0).bind fun _ => (f_X12_isQuestion h1 v0 t6).bind fun t7 => if t7 = 0 then f_X12_holdsNow_j63 h1 t4 (-1 : Int32) else (ck h1 12 v0).bind fun _ => (f_X12_sureAt h1 v0 (0 : Int32) t6).bind fun t8 => f_X12_holdsNow_j63 h1 t4 t8
theorem s_X12_holdsNow {h : aH} {v0 : Nat} {v1 : Int32} {out : Int32 × aH} (hf0 : f_X12_holdsNow h v0 v1 = some out) : EV 4 yX12_holdsNow cX12_holdsNow 5 (some .boolean) h [.ref v0, .int v1] (some (.int out.1)) out.2 0 0 := by
  refine EV.of (own := RX12) (lv0 := [(0, .ref v0), (1, .int v1)]) (by decide +kernel) rfl rfl (Nat.le_of_ble_eq_true rfl) ?_
  intro p l e s m args below meth c D cA B Hb C hin
  unfold f_X12_holdsNow at hf0
  have J63 : ∀ (h1 : aH) (t2 : Int32) (t3 : Int32), f_X12_holdsNow_j63 h1 t2 t3 = some out → gW p l e (rmO 4 0 0) s m args below meth c (MQ below (eQ D cA B Hb out.2 (some (.int out.1))) args s 0 0 (fun q => B ≤ q)) D cA B Hb 5 h1 63 [(2, .int t2)] [.int t3] 0 0 := by
    intro h1 t2 t3 hf0
    unfold f_X12_holdsNow_j63 at hf0
    refine r_istore (lv' := [(4, .int t3), (2, .int t2)]) C dX12_holdsNow_63 (by decide) rfl rfl ?_
    refine r_iload_n C dX12_holdsNow_65 rfl ?_
    refine r_bipush (v := 22) C dX12_holdsNow_66 (by decide) ?_
    refine r_icmp_ne (tgt := 85) C dX12_holdsNow_68 (by decide) (fun c4 => ?_) (fun c4 => ?_)
    · rw [if_neg c4] at hf0
      refine r_iload_n C dX12_holdsNow_85 rfl ?_
      refine r_bipush (v := 23) C dX12_holdsNow_86 (by decide) ?_
      refine r_icmp_ne (tgt := 105) C dX12_holdsNow_88 (by decide) (fun c5 => ?_) (fun c5 => ?_)
      · rw [if_neg c5] at hf0
        refine r_iload C dX12_holdsNow_105 rfl ?_
        refine r_ifne (tgt := 114) C dX12_holdsNow_107 (by decide) (fun c6 => ?_) (fun c6 => ?_)
        · rw [if_neg c6] at hf0
          refine r_iconst (v := 0) C dX12_holdsNow_114 (by decide) ?_
          obtain rfl := so hf0
          exact r_zret C dX12_holdsNow_115 (Or.inl rfl)
        · rw [if_pos c6] at hf0
          refine r_iconst (v := 1) C dX12_holdsNow_110 (by decide) ?_
          refine r_goto (tgt := 115) C dX12_holdsNow_111 (by decide) ?_
          obtain rfl := so hf0
          exact r_zret C dX12_holdsNow_115 (Or.inr rfl)
      · rw [if_pos c5] at hf0
        refine r_iload C dX12_holdsNow_91 rfl ?_
        refine r_iconst (v := 1) C dX12_holdsNow_93 (by decide) ?_
        refine r_icmp_ne (tgt := 101) C dX12_holdsNow_94 (by decide) (fun c7 => ?_) (fun c7 => ?_)
        · rw [if_neg c7] at hf0
          refine r_iconst (v := 0) C dX12_holdsNow_101 (by decide) ?_
          refine r_goto (tgt := 115) C dX12_holdsNow_102 (by decide) ?_
          obtain rfl := so hf0
          exact r_zret C dX12_holdsNow_115 (Or.inl rfl)
        · rw [if_pos c7] at hf0
          refine r_iconst (v := 1) C dX12_holdsNow_97 (by decide) ?_
          refine r_goto (tgt := 115) C dX12_holdsNow_98 (by decide) ?_
          obtain rfl := so hf0
          exact r_zret C dX12_holdsNow_115 (Or.inr rfl)
    · rw [if_pos c4] at hf0
      refine r_iload C dX12_holdsNow_71 rfl ?_
      refine r_iconst (v := -1) C dX12_holdsNow_73 (by decide) ?_
      refine r_icmp_eq (tgt := 81) C dX12_holdsNow_74 (by decide) (fun c8 => ?_) (fun c8 => ?_)
      · rw [if_pos c8] at hf0
        refine r_iconst (v := 0) C dX12_holdsNow_81 (by decide) ?_
        refine r_goto (tgt := 115) C dX12_holdsNow_82 (by decide) ?_
        obtain rfl := so hf0
        exact r_zret C dX12_holdsNow_115 (Or.inl rfl)
      · rw [if_neg c8] at hf0
        refine r_iconst (v := 1) C dX12_holdsNow_77 (by decide) ?_
        refine r_goto (tgt := 115) C dX12_holdsNow_78 (by decide) ?_
        obtain rfl := so hf0
        exact r_zret C dX12_holdsNow_115 (Or.inr rfl)
  refine r_aload_n C dX12_holdsNow_0 rfl ?_
  obtain ⟨u10, e9, hf0⟩ := ob hf0
  obtain ⟨h11, e12, hf0⟩ := ob hf0
  refine r_cV (ci := 12) (rest := []) (st2 := []) C (s_X12_fitsAll e12) mk_X12_fitsAll rfl (ck_k e9) (by decide) im_X12_fitsAll sl_X12_fitsAll lk_X12_388 rfl rfl rfl dX12_holdsNow_1 (Nat.le_of_ble_eq_true rfl) ⟨Nat.le_of_ble_eq_true rfl, Nat.le_of_ble_eq_true rfl⟩ ⟨Nat.le_of_ble_eq_true rfl, Nat.le_of_ble_eq_true rfl⟩ ?_
  refine r_aload_n C dX12_holdsNow_4 rfl ?_
  obtain ⟨t13, e14, hf0⟩ := ob hf0
  refine r_getR C fk_X12_7 rfl dX12_holdsNow_5 e14 ?_
  refine r_iload_n C dX12_holdsNow_8 rfl ?_
  obtain ⟨t15, e16, hf0⟩ := ob hf0
  refine r_ldI C dX12_holdsNow_9 e16 ?_
  refine r_sipush (v := 2100) C dX12_holdsNow_10 (by decide) ?_
  refine r_isub C dX12_holdsNow_13 ?_
  obtain ⟨t17, e18, hf0⟩ := ob hf0
  refine r_istore_n (lv' := [(2, .int t17), (0, .ref v0), (1, .int v1)]) C dX12_holdsNow_14 (by decide) e18 rfl ?_
  refine r_aload_n C dX12_holdsNow_15 rfl ?_
  obtain ⟨t19, e20, hf0⟩ := ob hf0
  refine r_getR C fk_X12_7 rfl dX12_holdsNow_16 e20 ?_
  refine r_iload_n C dX12_holdsNow_19 rfl ?_
  refine r_iconst (v := 1) C dX12_holdsNow_20 (by decide) ?_
  refine r_iadd C dX12_holdsNow_21 ?_
  obtain ⟨t21, e22, hf0⟩ := ob hf0
  refine r_ldI C dX12_holdsNow_22 e22 ?_
  refine r_istore_n (lv' := [(3, .int t21), (2, .int t17), (0, .ref v0), (1, .int v1)]) C dX12_holdsNow_23 (by decide) rfl rfl ?_
  refine r_iload_n C dX12_holdsNow_24 rfl ?_
  refine r_bipush (v := 25) C dX12_holdsNow_25 (by decide) ?_
  refine r_icmp_ne (tgt := 45) C dX12_holdsNow_27 (by decide) (fun c23 => ?_) (fun c23 => ?_)
  · rw [if_neg c23] at hf0
    refine r_aload_n C dX12_holdsNow_45 rfl ?_
    refine r_iload_n C dX12_holdsNow_46 rfl ?_
    obtain ⟨u25, e24, hf0⟩ := ob hf0
    obtain ⟨t26, e27, hf0⟩ := ob hf0
    refine r_cV (ci := 12) (rest := []) (st2 := [.int t26]) C (s_X12_isQuestion e27) mk_X12_isQuestion rfl (ck_k e24) (by decide) im_X12_isQuestion sl_X12_isQuestion lk_X12_334 rfl rfl rfl dX12_holdsNow_47 (Nat.le_of_ble_eq_true rfl) ⟨Nat.le_of_ble_eq_true rfl, Nat.le_of_ble_eq_true rfl⟩ ⟨Nat.le_of_ble_eq_true rfl, Nat.le_of_ble_eq_true rfl⟩ ?_
    refine r_ifeq (tgt := 62) C dX12_holdsNow_50 (by decide) (fun c28 => ?_) (fun c28 => ?_)
    · rw [if_pos c28] at hf0
      refine r_iconst (v := -1) C dX12_holdsNow_62 (by decide) ?_
      refine r_subk [1] (lv' := [(2, .int t17)]) rfl ?_
      exact J63 h11 t17 (-1 : Int32) hf0
    · rw [if_neg c28] at hf0
      refine r_aload_n C dX12_holdsNow_53 rfl ?_
      refine r_iconst (v := 0) C dX12_holdsNow_54 (by decide) ?_
      refine r_iload_n C dX12_holdsNow_55 rfl ?_
      obtain ⟨u30, e29, hf0⟩ := ob hf0
      obtain ⟨t31, e32, hf0⟩ := ob hf0
      refine r_cV (ci := 12) (rest := []) (st2 := [.int t31]) C (s_X12_sureAt e32) mk_X12_sureAt rfl (ck_k e29) (by decide) im_X12_sureAt sl_X12_sureAt lk_X12_394 rfl rfl rfl dX12_holdsNow_56 (Nat.le_of_ble_eq_true rfl) ⟨Nat.le_of_ble_eq_true rfl, Nat.le_of_ble_eq_true rfl⟩ ⟨Nat.le_of_ble_eq_true rfl, Nat.le_of_ble_eq_true rfl⟩ ?_
      refine r_goto (tgt := 63) C dX12_holdsNow_59 (by decide) ?_
      refine r_subk [1] (lv' := [(2, .int t17)]) rfl ?_
      exact J63 h11 t17 t31 hf0
  · rw [if_pos c23] at hf0
    refine r_aload_n C dX12_holdsNow_30 rfl ?_
    refine r_iconst (v := 0) C dX12_holdsNow_31 (by decide) ?_
    obtain ⟨u34, e33, hf0⟩ := ob hf0
    obtain ⟨t35, e36, hf0⟩ := ob hf0
    refine r_cV (ci := 12) (rest := []) (st2 := [.int t35]) C (s_X12_leftAt e36) mk_X12_leftAt rfl (ck_k e33) (by decide) im_X12_leftAt sl_X12_leftAt lk_X12_391 rfl rfl rfl dX12_holdsNow_32 (Nat.le_of_ble_eq_true rfl) ⟨Nat.le_of_ble_eq_true rfl, Nat.le_of_ble_eq_true rfl⟩ ⟨Nat.le_of_ble_eq_true rfl, Nat.le_of_ble_eq_true rfl⟩ ?_
    refine r_iload_n C dX12_holdsNow_35 rfl ?_
    refine r_icmp_gt (tgt := 43) C dX12_holdsNow_36 (by decide) (fun c37 => ?_) (fun c37 => ?_)
    · rw [if_pos c37] at hf0
      refine r_iconst (v := 0) C dX12_holdsNow_43 (by decide) ?_
      obtain rfl := so hf0
      exact r_zret C dX12_holdsNow_44 (Or.inl rfl)
    · rw [if_neg c37] at hf0
      refine r_iconst (v := 1) C dX12_holdsNow_39 (by decide) ?_
      refine r_goto (tgt := 44) C dX12_holdsNow_40 (by decide) ?_
      obtain rfl := so hf0
      exact r_zret C dX12_holdsNow_44 (Or.inr rfl)
def f_X12_rules_j48 (h : aH) (v0 : Nat) (v1 : Int32) (s0 : Int32) : Option (aH) := (gI h 12 v0 40).bind fun t1 => (ck h 12 v0).bind fun _ => (f_X12_isIn h v0 v1 t1).bind fun t2 => if s0 = t2 then (pI h 12 v0 41 (0 : Int32)).bind fun h4 => some h4 else (pI h 12 v0 41 (1 : Int32)).bind fun h3 => some h3
def f_X12_rules_j47 (h : aH) (v0 : Nat) (v1 : Int32) : Option (aH) := f_X12_rules_j48 h v0 v1 (0 : Int32)
def f_X12_rules_j43 (h : aH) (v0 : Nat) (v1 : Int32) : Option (aH) := f_X12_rules_j48 h v0 v1 (1 : Int32)
def f_X12_rules (h : aH) (v0 : Nat) (v1 : Int32) : Option (aH) := (ck h 12 v0).bind fun _ => (f_X12_fitsAll h v0).bind fun h5 => (ck h5 12 v0).bind fun _ => (f_X12_sureAt h5 v0 (0 : Int32) v1).bind fun t6 => if t6 = (1 : Int32) then f_X12_rules_j43 h5 v0 v1 else if t6 = (-1 : Int32) then (ck h5 12 v0).bind fun _ => (f_X12_weightAll h5 v0 (-1 : Int32) (0 : Int32) v1).bind fun t7 => (ck h5 12 v0).bind fun _ => (f_X12_weightAll h5 v0 (-1 : Int32) (0 : Int32) (-1 : Int32)).bind fun t8 => if (lg_cmp ((2 : Int64) * t7) t8) < 0 then f_X12_rules_j47 h5 v0 v1 else f_X12_rules_j43 h5 v0 v1 else f_X12_rules_j47 h5 v0 v1
theorem s_X12_rules {h : aH} {v0 : Nat} {v1 : Int32} {out : aH} (hf0 : f_X12_rules h v0 v1 = some out) : EV 4 yX12_rules cX12_rules 4 none h [.ref v0, .int v1] none out 0 0 := by
  refine EV.of (own := RX12) (lv0 := [(0, .ref v0), (1, .int v1)]) (by decide +kernel) rfl rfl (Nat.le_of_ble_eq_true rfl) ?_
  intro p l e s m args below meth c D cA B Hb C hin
  unfold f_X12_rules at hf0
  have J48 : ∀ (h1 : aH) (t2 : Nat) (t3 : Int32) (t4 : Int32), f_X12_rules_j48 h1 t2 t3 t4 = some out → gW p l e (rmO 4 0 0) s m args below meth c (MQ below (eQ D cA B Hb out none) args s 0 0 (fun q => B ≤ q)) D cA B Hb 4 h1 48 [(0, .ref t2), (1, .int t3)] [.int t4] 0 0 := by
    intro h1 t2 t3 t4 hf0
    unfold f_X12_rules_j48 at hf0
    refine r_istore_n (lv' := [(3, .int t4), (0, .ref t2), (1, .int t3)]) C dX12_rules_48 (by decide) rfl rfl ?_
    refine r_aload_n C dX12_rules_49 rfl ?_
    refine r_iload_n C dX12_rules_50 rfl ?_
    refine r_aload_n C dX12_rules_51 rfl ?_
    refine r_iload_n C dX12_rules_52 rfl ?_
    refine r_aload_n C dX12_rules_53 rfl ?_
    obtain ⟨t5, e6, hf0⟩ := ob hf0
    refine r_getI C fk_X12_473 rfl dX12_rules_54 e6 ?_
    obtain ⟨u8, e7, hf0⟩ := ob hf0
    obtain ⟨t9, e10, hf0⟩ := ob hf0
    refine r_cV (ci := 12) (rest := [.int t4, .ref t2]) (st2 := [.int t9, .int t4, .ref t2]) C (s_X12_isIn e10) mk_X12_isIn rfl (ck_k e7) (by decide) im_X12_isIn sl_X12_isIn lk_X12_337 rfl rfl rfl dX12_rules_57 (Nat.le_of_ble_eq_true rfl) ⟨Nat.le_of_ble_eq_true rfl, Nat.le_of_ble_eq_true rfl⟩ ⟨Nat.le_of_ble_eq_true rfl, Nat.le_of_ble_eq_true rfl⟩ ?_
    refine r_icmp_ne (tgt := 67) C dX12_rules_60 (by decide) (fun c11 => ?_) (fun c11 => ?_)
    · rw [if_neg c11] at hf0
      refine r_iconst (v := 1) C dX12_rules_67 (by decide) ?_
      obtain ⟨h12, e13, hf0⟩ := ob hf0
      refine r_putI C fk_X12_480 dX12_rules_68 e13 ?_
      obtain rfl := so hf0
      exact r_vret C dX12_rules_71
    · rw [if_pos c11] at hf0
      refine r_iconst (v := 0) C dX12_rules_63 (by decide) ?_
      refine r_goto (tgt := 68) C dX12_rules_64 (by decide) ?_
      obtain ⟨h14, e15, hf0⟩ := ob hf0
      refine r_putI C fk_X12_480 dX12_rules_68 e15 ?_
      obtain rfl := so hf0
      exact r_vret C dX12_rules_71
  have J47 : ∀ (h16 : aH) (t17 : Nat) (t18 : Int32), f_X12_rules_j47 h16 t17 t18 = some out → gW p l e (rmO 4 0 0) s m args below meth c (MQ below (eQ D cA B Hb out none) args s 0 0 (fun q => B ≤ q)) D cA B Hb 4 h16 47 [(0, .ref t17), (1, .int t18)] [] 0 0 := by
    intro h16 t17 t18 hf0
    unfold f_X12_rules_j47 at hf0
    refine r_iconst (v := 0) C dX12_rules_47 (by decide) ?_
    exact J48 h16 t17 t18 (0 : Int32) hf0
  have J43 : ∀ (h19 : aH) (t20 : Nat) (t21 : Int32), f_X12_rules_j43 h19 t20 t21 = some out → gW p l e (rmO 4 0 0) s m args below meth c (MQ below (eQ D cA B Hb out none) args s 0 0 (fun q => B ≤ q)) D cA B Hb 4 h19 43 [(0, .ref t20), (1, .int t21)] [] 0 0 := by
    intro h19 t20 t21 hf0
    unfold f_X12_rules_j43 at hf0
    refine r_iconst (v := 1) C dX12_rules_43 (by decide) ?_
    refine r_goto (tgt := 48) C dX12_rules_44 (by decide) ?_
    exact J48 h19 t20 t21 (1 : Int32) hf0
  refine r_aload_n C dX12_rules_0 rfl ?_
  obtain ⟨u23, e22, hf0⟩ := ob hf0
  obtain ⟨h24, e25, hf0⟩ := ob hf0
  refine r_cV (ci := 12) (rest := []) (st2 := []) C (s_X12_fitsAll e25) mk_X12_fitsAll rfl (ck_k e22) (by decide) im_X12_fitsAll sl_X12_fitsAll lk_X12_388 rfl rfl rfl dX12_rules_1 (Nat.le_of_ble_eq_true rfl) ⟨Nat.le_of_ble_eq_true rfl, Nat.le_of_ble_eq_true rfl⟩ ⟨Nat.le_of_ble_eq_true rfl, Nat.le_of_ble_eq_true rfl⟩ ?_
  refine r_aload_n C dX12_rules_4 rfl ?_
  refine r_iconst (v := 0) C dX12_rules_5 (by decide) ?_
  refine r_iload_n C dX12_rules_6 rfl ?_
  obtain ⟨u27, e26, hf0⟩ := ob hf0
  obtain ⟨t28, e29, hf0⟩ := ob hf0
  refine r_cV (ci := 12) (rest := []) (st2 := [.int t28]) C (s_X12_sureAt e29) mk_X12_sureAt rfl (ck_k e26) (by decide) im_X12_sureAt sl_X12_sureAt lk_X12_394 rfl rfl rfl dX12_rules_7 (Nat.le_of_ble_eq_true rfl) ⟨Nat.le_of_ble_eq_true rfl, Nat.le_of_ble_eq_true rfl⟩ ⟨Nat.le_of_ble_eq_true rfl, Nat.le_of_ble_eq_true rfl⟩ ?_
  refine r_istore_n (lv' := [(2, .int t28), (0, .ref v0), (1, .int v1)]) C dX12_rules_10 (by decide) rfl rfl ?_
  refine r_iload_n C dX12_rules_11 rfl ?_
  refine r_iconst (v := 1) C dX12_rules_12 (by decide) ?_
  refine r_icmp_eq (tgt := 43) C dX12_rules_13 (by decide) (fun c30 => ?_) (fun c30 => ?_)
  · rw [if_pos c30] at hf0
    refine r_subk [1, 2] (lv' := [(0, .ref v0), (1, .int v1)]) rfl ?_
    exact J43 h24 v0 v1 hf0
  · rw [if_neg c30] at hf0
    refine r_iload_n C dX12_rules_16 rfl ?_
    refine r_iconst (v := -1) C dX12_rules_17 (by decide) ?_
    refine r_icmp_ne (tgt := 47) C dX12_rules_18 (by decide) (fun c31 => ?_) (fun c31 => ?_)
    · rw [if_neg c31] at hf0
      refine r_subk [1, 2] (lv' := [(0, .ref v0), (1, .int v1)]) rfl ?_
      exact J47 h24 v0 v1 hf0
    · rw [if_pos c31] at hf0
      refine r_ldc2 (v := 2) C dX12_rules_21 cl_X12_478 ?_
      refine r_aload_n C dX12_rules_24 rfl ?_
      refine r_iconst (v := -1) C dX12_rules_25 (by decide) ?_
      refine r_iconst (v := 0) C dX12_rules_26 (by decide) ?_
      refine r_iload_n C dX12_rules_27 rfl ?_
      obtain ⟨u33, e32, hf0⟩ := ob hf0
      obtain ⟨t34, e35, hf0⟩ := ob hf0
      refine r_cV (ci := 12) (rest := [.long (2 : Int64)]) (st2 := [.long t34, .long (2 : Int64)]) C (s_X12_weightAll e35) mk_X12_weightAll rfl (ck_k e32) (by decide) im_X12_weightAll sl_X12_weightAll lk_X12_405 rfl rfl rfl dX12_rules_28 (Nat.le_of_ble_eq_true rfl) ⟨Nat.le_of_ble_eq_true rfl, Nat.le_of_ble_eq_true rfl⟩ ⟨Nat.le_of_ble_eq_true rfl, Nat.le_of_ble_eq_true rfl⟩ ?_
      refine r_lmul C dX12_rules_31 ?_
      refine r_aload_n C dX12_rules_32 rfl ?_
      refine r_iconst (v := -1) C dX12_rules_33 (by decide) ?_
      refine r_iconst (v := 0) C dX12_rules_34 (by decide) ?_
      refine r_iconst (v := -1) C dX12_rules_35 (by decide) ?_
      obtain ⟨u37, e36, hf0⟩ := ob hf0
      obtain ⟨t38, e39, hf0⟩ := ob hf0
      refine r_cV (ci := 12) (rest := [.long ((2 : Int64) * t34)]) (st2 := [.long t38, .long ((2 : Int64) * t34)]) C (s_X12_weightAll e39) mk_X12_weightAll rfl (ck_k e36) (by decide) im_X12_weightAll sl_X12_weightAll lk_X12_405 rfl rfl rfl dX12_rules_36 (Nat.le_of_ble_eq_true rfl) ⟨Nat.le_of_ble_eq_true rfl, Nat.le_of_ble_eq_true rfl⟩ ⟨Nat.le_of_ble_eq_true rfl, Nat.le_of_ble_eq_true rfl⟩ ?_
      refine r_lcmp C dX12_rules_39 ?_
      refine r_iflt (tgt := 47) C dX12_rules_40 (by decide) (fun c40 => ?_) (fun c40 => ?_)
      · rw [if_pos c40] at hf0
        refine r_subk [1, 2] (lv' := [(0, .ref v0), (1, .int v1)]) rfl ?_
        exact J47 h24 v0 v1 hf0
      · rw [if_neg c40] at hf0
        refine r_subk [1, 2] (lv' := [(0, .ref v0), (1, .int v1)]) rfl ?_
        exact J43 h24 v0 v1 hf0
def f_X12_doesStep_j137 (h : aH) (v0 : Nat) (v1 : Int32) (v2 : Int32) (v3 : Int32) : Option (Int32 × aH) := if v3 < (2100 : Int32) then some (v1 + (1 : Int32), h) else (ck h 12 v0).bind fun _ => bd2 (f_X12_holdsNow h v0 v2) fun t1 h2 => if t1 = 0 then (gR h2 12 v0 0).bind fun t3 => (lI h2 t3 (v2 + (3 : Int32))).bind fun t4 => some (t4 + (1 : Int32), h2) else some (v1 + (1 : Int32), h2)
def f_X12_doesStep_j114 (h : aH) (v0 : Nat) (v1 : Int32) (v2 : Int32) (v3 : Int32) (v5 : Int32) : Option (Int32 × aH) := if v3 = (20 : Int32) then (ck h 12 v0).bind fun _ => (f_X12_isQuestion h v0 v5).bind fun t5 => if t5 = 0 then f_X12_doesStep_j137 h v0 v1 v2 v3 else (ck h 12 v0).bind fun _ => (f_X12_rules h v0 v5).bind fun h6 => some ((-1 : Int32), h6) else f_X12_doesStep_j137 h v0 v1 v2 v3
def f_X12_doesStep_j98 (h : aH) (v0 : Nat) (v1 : Int32) (v2 : Int32) (v3 : Int32) (v5 : Int32) : Option (Int32 × aH) := if v3 = (19 : Int32) then (gR h 12 v0 0).bind fun t7 => (lI h t7 (5 : Int32)).bind fun t8 => (sI h t7 (5 : Int32) (t8 + (1 : Int32))).bind fun h9 => f_X12_doesStep_j114 h9 v0 v1 v2 v3 v5 else f_X12_doesStep_j114 h v0 v1 v2 v3 v5
def f_X12_doesStep_j67 (h : aH) (v0 : Nat) (v1 : Int32) (v2 : Int32) (v3 : Int32) (v4 : Int32) (v5 : Int32) : Option (Int32 × aH) := if v3 = (18 : Int32) then (ck h 12 v0).bind fun _ => (f_X12_isWitness h v0 v4).bind fun t10 => if t10 = 0 then f_X12_doesStep_j98 h v0 v1 v2 v3 v5 else (ck h 12 v0).bind fun _ => (f_X12_fitsAll h v0).bind fun h11 => (ck h11 12 v0).bind fun _ => bd2 (f_X12_bestOf h11 v0 v4) fun t12 h13 => (ck h13 12 v0).bind fun _ => (f_X12_puts h13 v0 v4 t12).bind fun h14 => f_X12_doesStep_j98 h14 v0 v1 v2 v3 v5 else f_X12_doesStep_j98 h v0 v1 v2 v3 v5
def f_X12_doesStep (h : aH) (v0 : Nat) (v1 : Int32) : Option (Int32 × aH) := (some ((148 : Int32) + ((4 : Int32) * v1))).bind fun t15 => (gR h 12 v0 0).bind fun t16 => (lI h t16 t15).bind fun t17 => (gR h 12 v0 0).bind fun t18 => (lI h t18 (t15 + (1 : Int32))).bind fun t19 => (gR h 12 v0 0).bind fun t20 => (lI h t20 (t15 + (2 : Int32))).bind fun t21 => if t17 = (17 : Int32) then (ck h 12 v0).bind fun _ => (f_X12_isWitness h v0 t19).bind fun t22 => if t22 = 0 then f_X12_doesStep_j67 h v0 v1 t15 t17 t19 t21 else (ck h 12 v0).bind fun _ => (f_X12_isQuestion h v0 t21).bind fun t23 => if t23 = 0 then f_X12_doesStep_j67 h v0 v1 t15 t17 t19 t21 else (ck h 12 v0).bind fun _ => (f_X12_puts h v0 t19 t21).bind fun h24 => f_X12_doesStep_j67 h24 v0 v1 t15 t17 t19 t21 else f_X12_doesStep_j67 h v0 v1 t15 t17 t19 t21
theorem s_X12_doesStep {h : aH} {v0 : Nat} {v1 : Int32} {out : Int32 × aH} (hf0 : f_X12_doesStep h v0 v1 = some out) : EV 7 yX12_doesStep cX12_doesStep 6 (some .int) h [.ref v0, .int v1] (some (.int out.1)) out.2 0 0 := by
  refine EV.of (own := RX12) (lv0 := [(0, .ref v0), (1, .int v1)]) (by decide +kernel) rfl rfl (Nat.le_of_ble_eq_true rfl) ?_
  intro p l e s m args below meth c D cA B Hb C hin
  unfold f_X12_doesStep at hf0
  have J137 : ∀ (h1 : aH) (t2 : Nat) (t3 : Int32) (t4 : Int32) (t5 : Int32), f_X12_doesStep_j137 h1 t2 t3 t4 t5 = some out → gW p l e (rmO 7 0 0) s m args below meth c (MQ below (eQ D cA B Hb out.2 (some (.int out.1))) args s 0 0 (fun q => B ≤ q)) D cA B Hb 6 h1 137 [(0, .ref t2), (1, .int t3), (2, .int t4), (3, .int t5)] [] 0 0 := by
    intro h1 t2 t3 t4 t5 hf0
    unfold f_X12_doesStep_j137 at hf0
    refine r_iload_n C dX12_doesStep_137 rfl ?_
    refine r_sipush (v := 2100) C dX12_doesStep_138 (by decide) ?_
    refine r_icmp_lt (tgt := 165) C dX12_doesStep_141 (by decide) (fun c6 => ?_) (fun c6 => ?_)
    · rw [if_pos c6] at hf0
      refine r_iload_n C dX12_doesStep_165 rfl ?_
      refine r_iconst (v := 1) C dX12_doesStep_166 (by decide) ?_
      refine r_iadd C dX12_doesStep_167 ?_
      obtain rfl := so hf0
      exact r_iret C dX12_doesStep_168
    · rw [if_neg c6] at hf0
      refine r_aload_n C dX12_doesStep_144 rfl ?_
      refine r_iload_n C dX12_doesStep_145 rfl ?_
      obtain ⟨u8, e7, hf0⟩ := ob hf0
      obtain ⟨t9, h10, e11, hf0⟩ := ob2 hf0
      refine r_cV (ci := 12) (rest := []) (st2 := [.int t9]) C (s_X12_holdsNow e11) mk_X12_holdsNow rfl (ck_k e7) (by decide) im_X12_holdsNow sl_X12_holdsNow lk_X12_489 rfl rfl rfl dX12_doesStep_146 (Nat.le_of_ble_eq_true rfl) ⟨Nat.le_of_ble_eq_true rfl, Nat.le_of_ble_eq_true rfl⟩ ⟨Nat.le_of_ble_eq_true rfl, Nat.le_of_ble_eq_true rfl⟩ ?_
      refine r_ifne (tgt := 165) C dX12_doesStep_149 (by decide) (fun c12 => ?_) (fun c12 => ?_)
      · rw [if_neg c12] at hf0
        refine r_iload_n C dX12_doesStep_165 rfl ?_
        refine r_iconst (v := 1) C dX12_doesStep_166 (by decide) ?_
        refine r_iadd C dX12_doesStep_167 ?_
        obtain rfl := so hf0
        exact r_iret C dX12_doesStep_168
      · rw [if_pos c12] at hf0
        refine r_aload_n C dX12_doesStep_152 rfl ?_
        obtain ⟨t13, e14, hf0⟩ := ob hf0
        refine r_getR C fk_X12_7 rfl dX12_doesStep_153 e14 ?_
        refine r_iload_n C dX12_doesStep_156 rfl ?_
        refine r_iconst (v := 3) C dX12_doesStep_157 (by decide) ?_
        refine r_iadd C dX12_doesStep_158 ?_
        obtain ⟨t15, e16, hf0⟩ := ob hf0
        refine r_ldI C dX12_doesStep_159 e16 ?_
        refine r_iconst (v := 1) C dX12_doesStep_160 (by decide) ?_
        refine r_iadd C dX12_doesStep_161 ?_
        refine r_goto (tgt := 168) C dX12_doesStep_162 (by decide) ?_
        obtain rfl := so hf0
        exact r_iret C dX12_doesStep_168
  have J114 : ∀ (h17 : aH) (t18 : Nat) (t19 : Int32) (t20 : Int32) (t21 : Int32) (t22 : Int32), f_X12_doesStep_j114 h17 t18 t19 t20 t21 t22 = some out → gW p l e (rmO 7 0 0) s m args below meth c (MQ below (eQ D cA B Hb out.2 (some (.int out.1))) args s 0 0 (fun q => B ≤ q)) D cA B Hb 6 h17 114 [(0, .ref t18), (1, .int t19), (2, .int t20), (3, .int t21), (5, .int t22)] [] 0 0 := by
    intro h17 t18 t19 t20 t21 t22 hf0
    unfold f_X12_doesStep_j114 at hf0
    refine r_iload_n C dX12_doesStep_114 rfl ?_
    refine r_bipush (v := 20) C dX12_doesStep_115 (by decide) ?_
    refine r_icmp_ne (tgt := 137) C dX12_doesStep_117 (by decide) (fun c23 => ?_) (fun c23 => ?_)
    · rw [if_neg c23] at hf0
      refine r_subk [0, 1, 2, 3] (lv' := [(0, .ref t18), (1, .int t19), (2, .int t20), (3, .int t21)]) rfl ?_
      exact J137 h17 t18 t19 t20 t21 hf0
    · rw [if_pos c23] at hf0
      refine r_aload_n C dX12_doesStep_120 rfl ?_
      refine r_iload C dX12_doesStep_121 rfl ?_
      obtain ⟨u25, e24, hf0⟩ := ob hf0
      obtain ⟨t26, e27, hf0⟩ := ob hf0
      refine r_cV (ci := 12) (rest := []) (st2 := [.int t26]) C (s_X12_isQuestion e27) mk_X12_isQuestion rfl (ck_k e24) (by decide) im_X12_isQuestion sl_X12_isQuestion lk_X12_334 rfl rfl rfl dX12_doesStep_123 (Nat.le_of_ble_eq_true rfl) ⟨Nat.le_of_ble_eq_true rfl, Nat.le_of_ble_eq_true rfl⟩ ⟨Nat.le_of_ble_eq_true rfl, Nat.le_of_ble_eq_true rfl⟩ ?_
      refine r_ifeq (tgt := 137) C dX12_doesStep_126 (by decide) (fun c28 => ?_) (fun c28 => ?_)
      · rw [if_pos c28] at hf0
        refine r_subk [0, 1, 2, 3] (lv' := [(0, .ref t18), (1, .int t19), (2, .int t20), (3, .int t21)]) rfl ?_
        exact J137 h17 t18 t19 t20 t21 hf0
      · rw [if_neg c28] at hf0
        refine r_aload_n C dX12_doesStep_129 rfl ?_
        refine r_iload C dX12_doesStep_130 rfl ?_
        obtain ⟨u30, e29, hf0⟩ := ob hf0
        obtain ⟨h31, e32, hf0⟩ := ob hf0
        refine r_cV (ci := 12) (rest := []) (st2 := []) C (s_X12_rules e32) mk_X12_rules rfl (ck_k e29) (by decide) im_X12_rules sl_X12_rules lk_X12_486 rfl rfl rfl dX12_doesStep_132 (Nat.le_of_ble_eq_true rfl) ⟨Nat.le_of_ble_eq_true rfl, Nat.le_of_ble_eq_true rfl⟩ ⟨Nat.le_of_ble_eq_true rfl, Nat.le_of_ble_eq_true rfl⟩ ?_
        refine r_iconst (v := -1) C dX12_doesStep_135 (by decide) ?_
        obtain rfl := so hf0
        exact r_iret C dX12_doesStep_136
  have J98 : ∀ (h33 : aH) (t34 : Nat) (t35 : Int32) (t36 : Int32) (t37 : Int32) (t38 : Int32), f_X12_doesStep_j98 h33 t34 t35 t36 t37 t38 = some out → gW p l e (rmO 7 0 0) s m args below meth c (MQ below (eQ D cA B Hb out.2 (some (.int out.1))) args s 0 0 (fun q => B ≤ q)) D cA B Hb 6 h33 98 [(0, .ref t34), (1, .int t35), (2, .int t36), (3, .int t37), (5, .int t38)] [] 0 0 := by
    intro h33 t34 t35 t36 t37 t38 hf0
    unfold f_X12_doesStep_j98 at hf0
    refine r_iload_n C dX12_doesStep_98 rfl ?_
    refine r_bipush (v := 19) C dX12_doesStep_99 (by decide) ?_
    refine r_icmp_ne (tgt := 114) C dX12_doesStep_101 (by decide) (fun c39 => ?_) (fun c39 => ?_)
    · rw [if_neg c39] at hf0
      exact J114 h33 t34 t35 t36 t37 t38 hf0
    · rw [if_pos c39] at hf0
      refine r_aload_n C dX12_doesStep_104 rfl ?_
      obtain ⟨t40, e41, hf0⟩ := ob hf0
      refine r_getR C fk_X12_7 rfl dX12_doesStep_105 e41 ?_
      refine r_iconst (v := 5) C dX12_doesStep_108 (by decide) ?_
      refine r_dup2 C dX12_doesStep_109 rfl rfl ?_
      obtain ⟨t42, e43, hf0⟩ := ob hf0
      refine r_ldI C dX12_doesStep_110 e43 ?_
      refine r_iconst (v := 1) C dX12_doesStep_111 (by decide) ?_
      refine r_iadd C dX12_doesStep_112 ?_
      obtain ⟨h44, e45, hf0⟩ := ob hf0
      refine r_stI C dX12_doesStep_113 e45 ?_
      exact J114 h44 t34 t35 t36 t37 t38 hf0
  have J67 : ∀ (h46 : aH) (t47 : Nat) (t48 : Int32) (t49 : Int32) (t50 : Int32) (t51 : Int32) (t52 : Int32), f_X12_doesStep_j67 h46 t47 t48 t49 t50 t51 t52 = some out → gW p l e (rmO 7 0 0) s m args below meth c (MQ below (eQ D cA B Hb out.2 (some (.int out.1))) args s 0 0 (fun q => B ≤ q)) D cA B Hb 6 h46 67 [(0, .ref t47), (1, .int t48), (2, .int t49), (3, .int t50), (4, .int t51), (5, .int t52)] [] 0 0 := by
    intro h46 t47 t48 t49 t50 t51 t52 hf0
    unfold f_X12_doesStep_j67 at hf0
    refine r_iload_n C dX12_doesStep_67 rfl ?_
    refine r_bipush (v := 18) C dX12_doesStep_68 (by decide) ?_
    refine r_icmp_ne (tgt := 98) C dX12_doesStep_70 (by decide) (fun c53 => ?_) (fun c53 => ?_)
    · rw [if_neg c53] at hf0
      refine r_subk [0, 1, 2, 3, 5] (lv' := [(0, .ref t47), (1, .int t48), (2, .int t49), (3, .int t50), (5, .int t52)]) rfl ?_
      exact J98 h46 t47 t48 t49 t50 t52 hf0
    · rw [if_pos c53] at hf0
      refine r_aload_n C dX12_doesStep_73 rfl ?_
      refine r_iload C dX12_doesStep_74 rfl ?_
      obtain ⟨u55, e54, hf0⟩ := ob hf0
      obtain ⟨t56, e57, hf0⟩ := ob hf0
      refine r_cV (ci := 12) (rest := []) (st2 := [.int t56]) C (s_X12_isWitness e57) mk_X12_isWitness rfl (ck_k e54) (by decide) im_X12_isWitness sl_X12_isWitness lk_X12_340 rfl rfl rfl dX12_doesStep_76 (Nat.le_of_ble_eq_true rfl) ⟨Nat.le_of_ble_eq_true rfl, Nat.le_of_ble_eq_true rfl⟩ ⟨Nat.le_of_ble_eq_true rfl, Nat.le_of_ble_eq_true rfl⟩ ?_
      refine r_ifeq (tgt := 98) C dX12_doesStep_79 (by decide) (fun c58 => ?_) (fun c58 => ?_)
      · rw [if_pos c58] at hf0
        refine r_subk [0, 1, 2, 3, 5] (lv' := [(0, .ref t47), (1, .int t48), (2, .int t49), (3, .int t50), (5, .int t52)]) rfl ?_
        exact J98 h46 t47 t48 t49 t50 t52 hf0
      · rw [if_neg c58] at hf0
        refine r_aload_n C dX12_doesStep_82 rfl ?_
        obtain ⟨u60, e59, hf0⟩ := ob hf0
        obtain ⟨h61, e62, hf0⟩ := ob hf0
        refine r_cV (ci := 12) (rest := []) (st2 := []) C (s_X12_fitsAll e62) mk_X12_fitsAll rfl (ck_k e59) (by decide) im_X12_fitsAll sl_X12_fitsAll lk_X12_388 rfl rfl rfl dX12_doesStep_83 (Nat.le_of_ble_eq_true rfl) ⟨Nat.le_of_ble_eq_true rfl, Nat.le_of_ble_eq_true rfl⟩ ⟨Nat.le_of_ble_eq_true rfl, Nat.le_of_ble_eq_true rfl⟩ ?_
        refine r_aload_n C dX12_doesStep_86 rfl ?_
        refine r_iload C dX12_doesStep_87 rfl ?_
        refine r_aload_n C dX12_doesStep_89 rfl ?_
        refine r_iload C dX12_doesStep_90 rfl ?_
        obtain ⟨u64, e63, hf0⟩ := ob hf0
        obtain ⟨t65, h66, e67, hf0⟩ := ob2 hf0
        refine r_cV (ci := 12) (rest := [.int t51, .ref t47]) (st2 := [.int t65, .int t51, .ref t47]) C (s_X12_bestOf e67) mk_X12_bestOf rfl (ck_k e63) (by decide) im_X12_bestOf sl_X12_bestOf lk_X12_430 rfl rfl rfl dX12_doesStep_92 (Nat.le_of_ble_eq_true rfl) ⟨Nat.le_of_ble_eq_true rfl, Nat.le_of_ble_eq_true rfl⟩ ⟨Nat.le_of_ble_eq_true rfl, Nat.le_of_ble_eq_true rfl⟩ ?_
        obtain ⟨u69, e68, hf0⟩ := ob hf0
        obtain ⟨h70, e71, hf0⟩ := ob hf0
        refine r_cV (ci := 12) (rest := []) (st2 := []) C (s_X12_puts e71) mk_X12_puts rfl (ck_k e68) (by decide) im_X12_puts sl_X12_puts lk_X12_483 rfl rfl rfl dX12_doesStep_95 (Nat.le_of_ble_eq_true rfl) ⟨Nat.le_of_ble_eq_true rfl, Nat.le_of_ble_eq_true rfl⟩ ⟨Nat.le_of_ble_eq_true rfl, Nat.le_of_ble_eq_true rfl⟩ ?_
        refine r_subk [0, 1, 2, 3, 5] (lv' := [(0, .ref t47), (1, .int t48), (2, .int t49), (3, .int t50), (5, .int t52)]) rfl ?_
        exact J98 h70 t47 t48 t49 t50 t52 hf0
  refine r_sipush (v := 148) C dX12_doesStep_0 (by decide) ?_
  refine r_iconst (v := 4) C dX12_doesStep_3 (by decide) ?_
  refine r_iload_n C dX12_doesStep_4 rfl ?_
  refine r_imul C dX12_doesStep_5 ?_
  refine r_iadd C dX12_doesStep_6 ?_
  obtain ⟨t72, e73, hf0⟩ := ob hf0
  refine r_istore_n (lv' := [(2, .int t72), (0, .ref v0), (1, .int v1)]) C dX12_doesStep_7 (by decide) e73 rfl ?_
  refine r_aload_n C dX12_doesStep_8 rfl ?_
  obtain ⟨t74, e75, hf0⟩ := ob hf0
  refine r_getR C fk_X12_7 rfl dX12_doesStep_9 e75 ?_
  refine r_iload_n C dX12_doesStep_12 rfl ?_
  obtain ⟨t76, e77, hf0⟩ := ob hf0
  refine r_ldI C dX12_doesStep_13 e77 ?_
  refine r_istore_n (lv' := [(3, .int t76), (2, .int t72), (0, .ref v0), (1, .int v1)]) C dX12_doesStep_14 (by decide) rfl rfl ?_
  refine r_aload_n C dX12_doesStep_15 rfl ?_
  obtain ⟨t78, e79, hf0⟩ := ob hf0
  refine r_getR C fk_X12_7 rfl dX12_doesStep_16 e79 ?_
  refine r_iload_n C dX12_doesStep_19 rfl ?_
  refine r_iconst (v := 1) C dX12_doesStep_20 (by decide) ?_
  refine r_iadd C dX12_doesStep_21 ?_
  obtain ⟨t80, e81, hf0⟩ := ob hf0
  refine r_ldI C dX12_doesStep_22 e81 ?_
  refine r_istore (lv' := [(4, .int t80), (3, .int t76), (2, .int t72), (0, .ref v0), (1, .int v1)]) C dX12_doesStep_23 (by decide) rfl rfl ?_
  refine r_aload_n C dX12_doesStep_25 rfl ?_
  obtain ⟨t82, e83, hf0⟩ := ob hf0
  refine r_getR C fk_X12_7 rfl dX12_doesStep_26 e83 ?_
  refine r_iload_n C dX12_doesStep_29 rfl ?_
  refine r_iconst (v := 2) C dX12_doesStep_30 (by decide) ?_
  refine r_iadd C dX12_doesStep_31 ?_
  obtain ⟨t84, e85, hf0⟩ := ob hf0
  refine r_ldI C dX12_doesStep_32 e85 ?_
  refine r_istore (lv' := [(5, .int t84), (4, .int t80), (3, .int t76), (2, .int t72), (0, .ref v0), (1, .int v1)]) C dX12_doesStep_33 (by decide) rfl rfl ?_
  refine r_iload_n C dX12_doesStep_35 rfl ?_
  refine r_bipush (v := 17) C dX12_doesStep_36 (by decide) ?_
  refine r_icmp_ne (tgt := 67) C dX12_doesStep_38 (by decide) (fun c86 => ?_) (fun c86 => ?_)
  · rw [if_neg c86] at hf0
    refine r_subk [4, 5, 3, 2, 1, 0] (lv' := [(0, .ref v0), (1, .int v1), (2, .int t72), (3, .int t76), (4, .int t80), (5, .int t84)]) rfl ?_
    exact J67 h v0 v1 t72 t76 t80 t84 hf0
  · rw [if_pos c86] at hf0
    refine r_aload_n C dX12_doesStep_41 rfl ?_
    refine r_iload C dX12_doesStep_42 rfl ?_
    obtain ⟨u88, e87, hf0⟩ := ob hf0
    obtain ⟨t89, e90, hf0⟩ := ob hf0
    refine r_cV (ci := 12) (rest := []) (st2 := [.int t89]) C (s_X12_isWitness e90) mk_X12_isWitness rfl (ck_k e87) (by decide) im_X12_isWitness sl_X12_isWitness lk_X12_340 rfl rfl rfl dX12_doesStep_44 (Nat.le_of_ble_eq_true rfl) ⟨Nat.le_of_ble_eq_true rfl, Nat.le_of_ble_eq_true rfl⟩ ⟨Nat.le_of_ble_eq_true rfl, Nat.le_of_ble_eq_true rfl⟩ ?_
    refine r_ifeq (tgt := 67) C dX12_doesStep_47 (by decide) (fun c91 => ?_) (fun c91 => ?_)
    · rw [if_pos c91] at hf0
      refine r_subk [4, 5, 3, 2, 1, 0] (lv' := [(0, .ref v0), (1, .int v1), (2, .int t72), (3, .int t76), (4, .int t80), (5, .int t84)]) rfl ?_
      exact J67 h v0 v1 t72 t76 t80 t84 hf0
    · rw [if_neg c91] at hf0
      refine r_aload_n C dX12_doesStep_50 rfl ?_
      refine r_iload C dX12_doesStep_51 rfl ?_
      obtain ⟨u93, e92, hf0⟩ := ob hf0
      obtain ⟨t94, e95, hf0⟩ := ob hf0
      refine r_cV (ci := 12) (rest := []) (st2 := [.int t94]) C (s_X12_isQuestion e95) mk_X12_isQuestion rfl (ck_k e92) (by decide) im_X12_isQuestion sl_X12_isQuestion lk_X12_334 rfl rfl rfl dX12_doesStep_53 (Nat.le_of_ble_eq_true rfl) ⟨Nat.le_of_ble_eq_true rfl, Nat.le_of_ble_eq_true rfl⟩ ⟨Nat.le_of_ble_eq_true rfl, Nat.le_of_ble_eq_true rfl⟩ ?_
      refine r_ifeq (tgt := 67) C dX12_doesStep_56 (by decide) (fun c96 => ?_) (fun c96 => ?_)
      · rw [if_pos c96] at hf0
        refine r_subk [4, 5, 3, 2, 1, 0] (lv' := [(0, .ref v0), (1, .int v1), (2, .int t72), (3, .int t76), (4, .int t80), (5, .int t84)]) rfl ?_
        exact J67 h v0 v1 t72 t76 t80 t84 hf0
      · rw [if_neg c96] at hf0
        refine r_aload_n C dX12_doesStep_59 rfl ?_
        refine r_iload C dX12_doesStep_60 rfl ?_
        refine r_iload C dX12_doesStep_62 rfl ?_
        obtain ⟨u98, e97, hf0⟩ := ob hf0
        obtain ⟨h99, e100, hf0⟩ := ob hf0
        refine r_cV (ci := 12) (rest := []) (st2 := []) C (s_X12_puts e100) mk_X12_puts rfl (ck_k e97) (by decide) im_X12_puts sl_X12_puts lk_X12_483 rfl rfl rfl dX12_doesStep_64 (Nat.le_of_ble_eq_true rfl) ⟨Nat.le_of_ble_eq_true rfl, Nat.le_of_ble_eq_true rfl⟩ ⟨Nat.le_of_ble_eq_true rfl, Nat.le_of_ble_eq_true rfl⟩ ?_
        refine r_subk [4, 5, 3, 2, 1, 0] (lv' := [(0, .ref v0), (1, .int v1), (2, .int t72), (3, .int t76), (4, .int t80), (5, .int t84)]) rfl ?_
        exact J67 h99 v0 v1 t72 t76 t80 t84 hf0
def f_X12_sits_j215 (h : aH) (v0 : Nat) (v2 : Int32) (v3 : Int32) (v5 : Int32) (s0 : Nat) (s1 : Int32) (s2 : Int32) (s3 : Int32) : Option ((Int32 × aH) ⊕ (aH)) := (sI h s0 s1 (s2 ||| s3)).bind fun h21 => (some (v5 + (1 : Int32))).bind fun t22 => some (.inl (t22, h21))
def f_X12_sits_b179 (v0 : Nat) (v2 : Int32) (v3 : Int32) (v5 : Int32) (h : aH) : Option ((Int32 × aH) ⊕ (aH)) := (gR h 12 v0 0).bind fun t23 => (lI h t23 (4 : Int32)).bind fun t24 => if t24 ≤ v5 then some (.inr h) else (gR h 12 v0 44).bind fun t25 => (lI h t25 (5 : Int32)).bind fun t26 => (gR h 12 v0 42).bind fun t27 => (lI h t27 v5).bind fun t28 => if t28 = 0 then f_X12_sits_j215 h v0 v2 v3 v5 t25 (5 : Int32) t26 (0 : Int32) else f_X12_sits_j215 h v0 v2 v3 v5 t25 (5 : Int32) t26 ((1 : Int32) <<< (v5 &&& 31))
def f_X12_sits_l179 (v0 : Nat) (v2 : Int32) (v3 : Int32) (v5 : Int32) (h : aH) : Option (aH) := whileL wN (fun q : Int32 × aH => f_X12_sits_b179 v0 v2 v3 q.1 q.2) (v5, h)
def f_X12_sits_b241 (v0 : Nat) (v5 : Int32) (h : aH) : Option ((Int32 × aH) ⊕ (aH)) := if (48 : Int32) ≤ v5 then some (.inr h) else (gR h 12 v0 0).bind fun t34 => (gR h 12 v0 43).bind fun t35 => (lI h t35 v5).bind fun t36 => (sI h t34 ((100 : Int32) + v5) t36).bind fun h37 => (some (v5 + (1 : Int32))).bind fun t38 => some (.inl (t38, h37))
def f_X12_sits_l241 (v0 : Nat) (v5 : Int32) (h : aH) : Option (aH) := whileL wN (fun q : Int32 × aH => f_X12_sits_b241 v0 q.1 q.2) (v5, h)
def f_X12_sits_j109 (h : aH) (v0 : Nat) (v2 : Int32) (v3 : Int32) : Option (aH) := (gR h 12 v0 44).bind fun t1 => (gR h 12 v0 0).bind fun t2 => (lI h t2 (6 : Int32)).bind fun t3 => (sI h t1 (0 : Int32) t3).bind fun h4 => (gR h4 12 v0 44).bind fun t5 => (ck h4 12 v0).bind fun _ => (f_X12_feesOf h4 v0).bind fun t6 => (sI h4 t5 (1 : Int32) t6).bind fun h7 => (gR h7 12 v0 44).bind fun t8 => (gR h7 12 v0 0).bind fun t9 => (lI h7 t9 (5 : Int32)).bind fun t10 => (sI h7 t8 (2 : Int32) t10).bind fun h11 => (gR h11 12 v0 44).bind fun t12 => (gI h11 12 v0 40).bind fun t13 => (sI h11 t12 (3 : Int32) t13).bind fun h14 => (ck h14 12 v0).bind fun _ => (f_X12_fitsAll h14 v0).bind fun h15 => (gR h15 12 v0 44).bind fun t16 => (ck h15 12 v0).bind fun _ => (f_X12_leftAt h15 v0 (0 : Int32)).bind fun t17 => (sI h15 t16 (4 : Int32) t17).bind fun h18 => (gR h18 12 v0 44).bind fun t19 => (sI h18 t19 (5 : Int32) (0 : Int32)).bind fun h20 => (f_X12_sits_l179 v0 v2 v3 (0 : Int32) h20).bind fun h29 => (gR h29 12 v0 0).bind fun t30 => (sI h29 t30 (5 : Int32) v2).bind fun h31 => (gR h31 12 v0 0).bind fun t32 => (sI h31 t32 (6 : Int32) v3).bind fun h33 => (f_X12_sits_l241 v0 (0 : Int32) h33).bind fun h39 => some h39
def f_X12_sits_b18 (v0 : Nat) (v1 : Int32) (v2 : Int32) (v3 : Int32) (v4 : Int32) (h : aH) : Option ((Int32 × aH) ⊕ (aH)) := if (48 : Int32) ≤ v4 then some (.inr h) else (gR h 12 v0 43).bind fun t44 => (gR h 12 v0 0).bind fun t45 => (lI h t45 ((100 : Int32) + v4)).bind fun t46 => (sI h t44 v4 t46).bind fun h47 => (some (v4 + (1 : Int32))).bind fun t48 => some (.inl (t48, h47))
def f_X12_sits_l18 (v0 : Nat) (v1 : Int32) (v2 : Int32) (v3 : Int32) (v4 : Int32) (h : aH) : Option (aH) := whileL wN (fun q : Int32 × aH => f_X12_sits_b18 v0 v1 v2 v3 q.1 q.2) (v4, h)
def f_X12_sits_b80 (v0 : Nat) (v2 : Int32) (v3 : Int32) (v4 : Int32) (h : aH) : Option ((Int32 × aH) ⊕ (aH)) := if v4 = (-1 : Int32) then some (.inr h) else (gR h 12 v0 0).bind fun t57 => (lI h t57 (7 : Int32)).bind fun t58 => if t58 ≤ v4 then some (.inr h) else (ck h 12 v0).bind fun _ => bd2 (f_X12_doesStep h v0 v4) fun t59 h60 => some (.inl (t59, h60))
def f_X12_sits_l80 (v0 : Nat) (v2 : Int32) (v3 : Int32) (v4 : Int32) (h : aH) : Option (aH) := whileL wN (fun q : Int32 × aH => f_X12_sits_b80 v0 v2 v3 q.1 q.2) (v4, h)
def f_X12_sits (h : aH) (v0 : Nat) (v1 : Int32) : Option (aH) := (gR h 12 v0 0).bind fun t40 => (lI h t40 (5 : Int32)).bind fun t41 => (gR h 12 v0 0).bind fun t42 => (lI h t42 (6 : Int32)).bind fun t43 => (f_X12_sits_l18 v0 v1 t41 t43 (0 : Int32) h).bind fun h49 => (gR h49 12 v0 0).bind fun t50 => (sI h49 t50 (5 : Int32) (0 : Int32)).bind fun h51 => (gR h51 12 v0 0).bind fun t52 => (sI h51 t52 (6 : Int32) (0 : Int32)).bind fun h53 => (pI h53 12 v0 39 v1).bind fun h54 => (ck h54 12 v0).bind fun _ => (f_X12_drawsTruth h54 v0).bind fun h55 => (pI h55 12 v0 41 (2 : Int32)).bind fun h56 => (f_X12_sits_l80 v0 t41 t43 (0 : Int32) h56).bind fun h61 => f_X12_sits_j109 h61 v0 t41 t43
theorem s_X12_sits {h : aH} {v0 : Nat} {v1 : Int32} {out : aH} (hf0 : f_X12_sits h v0 v1 = some out) : EV 8 yX12_sits cX12_sits 6 none h [.ref v0, .int v1] none out 0 0 := by
  refine EV.of (own := RX12) (lv0 := [(0, .ref v0), (1, .int v1)]) (by decide +kernel) rfl rfl (Nat.le_of_ble_eq_true rfl) ?_
  intro p l e s m args below meth c D cA B Hb C hin
  unfold f_X12_sits at hf0
  have J109 : ∀ (h1 : aH) (t2 : Nat) (t3 : Int32) (t4 : Int32), f_X12_sits_j109 h1 t2 t3 t4 = some out → gW p l e (rmO 8 0 0) s m args below meth c (MQ below (eQ D cA B Hb out none) args s 0 0 (fun q => B ≤ q)) D cA B Hb 6 h1 109 [(0, .ref t2), (2, .int t3), (3, .int t4)] [] 0 0 := by
    intro h1 t2 t3 t4 hf0
    unfold f_X12_sits_j109 at hf0
    refine r_aload_n C dX12_sits_109 rfl ?_
    obtain ⟨t5, e6, hf0⟩ := ob hf0
    refine r_getR C fk_X12_88 rfl dX12_sits_110 e6 ?_
    refine r_iconst (v := 0) C dX12_sits_113 (by decide) ?_
    refine r_aload_n C dX12_sits_114 rfl ?_
    obtain ⟨t7, e8, hf0⟩ := ob hf0
    refine r_getR C fk_X12_7 rfl dX12_sits_115 e8 ?_
    refine r_bipush (v := 6) C dX12_sits_118 (by decide) ?_
    obtain ⟨t9, e10, hf0⟩ := ob hf0
    refine r_ldI C dX12_sits_120 e10 ?_
    obtain ⟨h11, e12, hf0⟩ := ob hf0
    refine r_stI C dX12_sits_121 e12 ?_
    refine r_aload_n C dX12_sits_122 rfl ?_
    obtain ⟨t13, e14, hf0⟩ := ob hf0
    refine r_getR C fk_X12_88 rfl dX12_sits_123 e14 ?_
    refine r_iconst (v := 1) C dX12_sits_126 (by decide) ?_
    refine r_aload_n C dX12_sits_127 rfl ?_
    obtain ⟨u16, e15, hf0⟩ := ob hf0
    obtain ⟨t17, e18, hf0⟩ := ob hf0
    refine r_cV (ci := 12) (rest := [.int (1 : Int32), .ref t13]) (st2 := [.int t17, .int (1 : Int32), .ref t13]) C (s_X12_feesOf e18) mk_X12_feesOf rfl (ck_k e15) (by decide) im_X12_feesOf sl_X12_feesOf lk_X12_418 rfl rfl rfl dX12_sits_128 (Nat.le_of_ble_eq_true rfl) ⟨Nat.le_of_ble_eq_true rfl, Nat.le_of_ble_eq_true rfl⟩ ⟨Nat.le_of_ble_eq_true rfl, Nat.le_of_ble_eq_true rfl⟩ ?_
    obtain ⟨h19, e20, hf0⟩ := ob hf0
    refine r_stI C dX12_sits_131 e20 ?_
    refine r_aload_n C dX12_sits_132 rfl ?_
    obtain ⟨t21, e22, hf0⟩ := ob hf0
    refine r_getR C fk_X12_88 rfl dX12_sits_133 e22 ?_
    refine r_iconst (v := 2) C dX12_sits_136 (by decide) ?_
    refine r_aload_n C dX12_sits_137 rfl ?_
    obtain ⟨t23, e24, hf0⟩ := ob hf0
    refine r_getR C fk_X12_7 rfl dX12_sits_138 e24 ?_
    refine r_iconst (v := 5) C dX12_sits_141 (by decide) ?_
    obtain ⟨t25, e26, hf0⟩ := ob hf0
    refine r_ldI C dX12_sits_142 e26 ?_
    obtain ⟨h27, e28, hf0⟩ := ob hf0
    refine r_stI C dX12_sits_143 e28 ?_
    refine r_aload_n C dX12_sits_144 rfl ?_
    obtain ⟨t29, e30, hf0⟩ := ob hf0
    refine r_getR C fk_X12_88 rfl dX12_sits_145 e30 ?_
    refine r_iconst (v := 3) C dX12_sits_148 (by decide) ?_
    refine r_aload_n C dX12_sits_149 rfl ?_
    obtain ⟨t31, e32, hf0⟩ := ob hf0
    refine r_getI C fk_X12_473 rfl dX12_sits_150 e32 ?_
    obtain ⟨h33, e34, hf0⟩ := ob hf0
    refine r_stI C dX12_sits_153 e34 ?_
    refine r_aload_n C dX12_sits_154 rfl ?_
    obtain ⟨u36, e35, hf0⟩ := ob hf0
    obtain ⟨h37, e38, hf0⟩ := ob hf0
    refine r_cV (ci := 12) (rest := []) (st2 := []) C (s_X12_fitsAll e38) mk_X12_fitsAll rfl (ck_k e35) (by decide) im_X12_fitsAll sl_X12_fitsAll lk_X12_388 rfl rfl rfl dX12_sits_155 (Nat.le_of_ble_eq_true rfl) ⟨Nat.le_of_ble_eq_true rfl, Nat.le_of_ble_eq_true rfl⟩ ⟨Nat.le_of_ble_eq_true rfl, Nat.le_of_ble_eq_true rfl⟩ ?_
    refine r_aload_n C dX12_sits_158 rfl ?_
    obtain ⟨t39, e40, hf0⟩ := ob hf0
    refine r_getR C fk_X12_88 rfl dX12_sits_159 e40 ?_
    refine r_iconst (v := 4) C dX12_sits_162 (by decide) ?_
    refine r_aload_n C dX12_sits_163 rfl ?_
    refine r_iconst (v := 0) C dX12_sits_164 (by decide) ?_
    obtain ⟨u42, e41, hf0⟩ := ob hf0
    obtain ⟨t43, e44, hf0⟩ := ob hf0
    refine r_cV (ci := 12) (rest := [.int (4 : Int32), .ref t39]) (st2 := [.int t43, .int (4 : Int32), .ref t39]) C (s_X12_leftAt e44) mk_X12_leftAt rfl (ck_k e41) (by decide) im_X12_leftAt sl_X12_leftAt lk_X12_391 rfl rfl rfl dX12_sits_165 (Nat.le_of_ble_eq_true rfl) ⟨Nat.le_of_ble_eq_true rfl, Nat.le_of_ble_eq_true rfl⟩ ⟨Nat.le_of_ble_eq_true rfl, Nat.le_of_ble_eq_true rfl⟩ ?_
    obtain ⟨h45, e46, hf0⟩ := ob hf0
    refine r_stI C dX12_sits_168 e46 ?_
    refine r_aload_n C dX12_sits_169 rfl ?_
    obtain ⟨t47, e48, hf0⟩ := ob hf0
    refine r_getR C fk_X12_88 rfl dX12_sits_170 e48 ?_
    refine r_iconst (v := 5) C dX12_sits_173 (by decide) ?_
    refine r_iconst (v := 0) C dX12_sits_174 (by decide) ?_
    obtain ⟨h49, e50, hf0⟩ := ob hf0
    refine r_stI C dX12_sits_175 e50 ?_
    refine r_iconst (v := 0) C dX12_sits_176 (by decide) ?_
    refine r_istore (lv' := [(5, .int (0 : Int32)), (0, .ref t2), (2, .int t3), (3, .int t4)]) C dX12_sits_177 (by decide) rfl rfl ?_
    obtain ⟨y51, hl179, hf0⟩ := ob hf0
    have L179 : ∀ (n : Nat) (t52 : Int32) (h53 : aH), whileL n (fun q : Int32 × aH => f_X12_sits_b179 t2 t3 t4 q.1 q.2) (t52, h53) = some y51 → gW p l e (rmO 8 0 0) s m args below meth c (MQ below (eQ D cA B Hb out none) args s 0 0 (fun q => B ≤ q)) D cA B Hb 6 h53 179 [(0, .ref t2), (2, .int t3), (3, .int t4), (5, .int t52)] [] 0 0 := by
      intro n
      induction n with
      | zero => intro t52 h53 hz; cases hz
      | succ n ih179 =>
        intro t52 h53 hz
        obtain ⟨x179, hf1, hk179⟩ := wl hz
        replace hf1 : f_X12_sits_b179 t2 t3 t4 t52 h53 = some x179 := hf1
        unfold f_X12_sits_b179 at hf1
        have J215 : ∀ (h54 : aH) (t55 : Int32) (t56 : Nat) (t57 : Int32) (t58 : Int32) (t59 : Int32), f_X12_sits_j215 h54 t2 t3 t4 t55 t56 t57 t58 t59 = some x179 → gW p l e (rmO 8 0 0) s m args below meth c (MQ below (eQ D cA B Hb out none) args s 0 0 (fun q => B ≤ q)) D cA B Hb 6 h54 215 [(0, .ref t2), (2, .int t3), (3, .int t4), (5, .int t55)] [.int t59, .int t58, .int t57, .ref t56] 0 0 := by
          intro h54 t55 t56 t57 t58 t59 hf1
          unfold f_X12_sits_j215 at hf1
          refine r_ior C dX12_sits_215 ?_
          obtain ⟨h60, e61, hf1⟩ := ob hf1
          refine r_stI C dX12_sits_216 e61 ?_
          obtain ⟨t62, e63, hf1⟩ := ob hf1
          refine r_iinc (lv' := [(5, .int t62), (0, .ref t2), (2, .int t3), (3, .int t4)]) C dX12_sits_217 rfl e63 (by decide) rfl ?_
          refine r_goto (tgt := 179) C dX12_sits_220 (by decide) ?_
          obtain rfl := so hf1
          refine r_subk [1, 2, 3, 0] (lv' := [(0, .ref t2), (2, .int t3), (3, .int t4), (5, .int t62)]) rfl ?_
          exact ih179 t62 h60 hk179
        refine r_iload C dX12_sits_179 rfl ?_
        refine r_aload_n C dX12_sits_181 rfl ?_
        obtain ⟨t64, e65, hf1⟩ := ob hf1
        refine r_getR C fk_X12_7 rfl dX12_sits_182 e65 ?_
        refine r_iconst (v := 4) C dX12_sits_185 (by decide) ?_
        obtain ⟨t66, e67, hf1⟩ := ob hf1
        refine r_ldI C dX12_sits_186 e67 ?_
        refine r_icmp_ge (tgt := 223) C dX12_sits_187 (by decide) (fun c68 => ?_) (fun c68 => ?_)
        · rw [if_pos c68] at hf1
          obtain rfl := so hf1
          obtain rfl := so (show some h53 = some y51 from hk179)
          refine r_aload_n C dX12_sits_223 rfl ?_
          obtain ⟨t69, e70, hf0⟩ := ob hf0
          refine r_getR C fk_X12_7 rfl dX12_sits_224 e70 ?_
          refine r_iconst (v := 5) C dX12_sits_227 (by decide) ?_
          refine r_iload_n C dX12_sits_228 rfl ?_
          obtain ⟨h71, e72, hf0⟩ := ob hf0
          refine r_stI C dX12_sits_229 e72 ?_
          refine r_aload_n C dX12_sits_230 rfl ?_
          obtain ⟨t73, e74, hf0⟩ := ob hf0
          refine r_getR C fk_X12_7 rfl dX12_sits_231 e74 ?_
          refine r_bipush (v := 6) C dX12_sits_234 (by decide) ?_
          refine r_iload_n C dX12_sits_236 rfl ?_
          obtain ⟨h75, e76, hf0⟩ := ob hf0
          refine r_stI C dX12_sits_237 e76 ?_
          refine r_iconst (v := 0) C dX12_sits_238 (by decide) ?_
          refine r_istore (lv' := [(5, .int (0 : Int32)), (0, .ref t2), (2, .int t3), (3, .int t4)]) C dX12_sits_239 (by decide) rfl rfl ?_
          obtain ⟨y77, hl241, hf0⟩ := ob hf0
          have L241 : ∀ (n : Nat) (t78 : Int32) (h79 : aH), whileL n (fun q : Int32 × aH => f_X12_sits_b241 t2 q.1 q.2) (t78, h79) = some y77 → gW p l e (rmO 8 0 0) s m args below meth c (MQ below (eQ D cA B Hb out none) args s 0 0 (fun q => B ≤ q)) D cA B Hb 6 h79 241 [(0, .ref t2), (5, .int t78)] [] 0 0 := by
            intro n
            induction n with
            | zero => intro t78 h79 hz; cases hz
            | succ n ih241 =>
              intro t78 h79 hz
              obtain ⟨x241, hf1, hk241⟩ := wl hz
              replace hf1 : f_X12_sits_b241 t2 t78 h79 = some x241 := hf1
              unfold f_X12_sits_b241 at hf1
              refine r_iload C dX12_sits_241 rfl ?_
              refine r_bipush (v := 48) C dX12_sits_243 (by decide) ?_
              refine r_icmp_ge (tgt := 271) C dX12_sits_245 (by decide) (fun c80 => ?_) (fun c80 => ?_)
              · rw [if_pos c80] at hf1
                obtain rfl := so hf1
                obtain rfl := so (show some h79 = some y77 from hk241)
                obtain rfl := so hf0
                exact r_vret C dX12_sits_271
              · rw [if_neg c80] at hf1
                refine r_aload_n C dX12_sits_248 rfl ?_
                obtain ⟨t81, e82, hf1⟩ := ob hf1
                refine r_getR C fk_X12_7 rfl dX12_sits_249 e82 ?_
                refine r_bipush (v := 100) C dX12_sits_252 (by decide) ?_
                refine r_iload C dX12_sits_254 rfl ?_
                refine r_iadd C dX12_sits_256 ?_
                refine r_aload_n C dX12_sits_257 rfl ?_
                obtain ⟨t83, e84, hf1⟩ := ob hf1
                refine r_getR C fk_X12_85 rfl dX12_sits_258 e84 ?_
                refine r_iload C dX12_sits_261 rfl ?_
                obtain ⟨t85, e86, hf1⟩ := ob hf1
                refine r_ldI C dX12_sits_263 e86 ?_
                obtain ⟨h87, e88, hf1⟩ := ob hf1
                refine r_stI C dX12_sits_264 e88 ?_
                obtain ⟨t89, e90, hf1⟩ := ob hf1
                refine r_iinc (lv' := [(5, .int t89), (0, .ref t2)]) C dX12_sits_265 rfl e90 (by decide) rfl ?_
                refine r_goto (tgt := 241) C dX12_sits_268 (by decide) ?_
                obtain rfl := so hf1
                refine r_subk [1, 0] (lv' := [(0, .ref t2), (5, .int t89)]) rfl ?_
                exact ih241 t89 h87 hk241
          refine r_subk [1, 0] (lv' := [(0, .ref t2), (5, .int (0 : Int32))]) rfl ?_
          exact L241 wN (0 : Int32) h75 hl241
        · rw [if_neg c68] at hf1
          refine r_aload_n C dX12_sits_190 rfl ?_
          obtain ⟨t91, e92, hf1⟩ := ob hf1
          refine r_getR C fk_X12_88 rfl dX12_sits_191 e92 ?_
          refine r_iconst (v := 5) C dX12_sits_194 (by decide) ?_
          refine r_dup2 C dX12_sits_195 rfl rfl ?_
          obtain ⟨t93, e94, hf1⟩ := ob hf1
          refine r_ldI C dX12_sits_196 e94 ?_
          refine r_aload_n C dX12_sits_197 rfl ?_
          obtain ⟨t95, e96, hf1⟩ := ob hf1
          refine r_getR C fk_X12_82 rfl dX12_sits_198 e96 ?_
          refine r_iload C dX12_sits_201 rfl ?_
          obtain ⟨t97, e98, hf1⟩ := ob hf1
          refine r_ldI C dX12_sits_203 e98 ?_
          refine r_ifne (tgt := 211) C dX12_sits_204 (by decide) (fun c99 => ?_) (fun c99 => ?_)
          · rw [if_neg c99] at hf1
            refine r_iconst (v := 1) C dX12_sits_211 (by decide) ?_
            refine r_iload C dX12_sits_212 rfl ?_
            refine r_ishl C dX12_sits_214 ?_
            exact J215 h53 t52 t91 (5 : Int32) t93 ((1 : Int32) <<< (t52 &&& 31)) hf1
          · rw [if_pos c99] at hf1
            refine r_iconst (v := 0) C dX12_sits_207 (by decide) ?_
            refine r_goto (tgt := 215) C dX12_sits_208 (by decide) ?_
            exact J215 h53 t52 t91 (5 : Int32) t93 (0 : Int32) hf1
    refine r_subk [1, 2, 3, 0] (lv' := [(0, .ref t2), (2, .int t3), (3, .int t4), (5, .int (0 : Int32))]) rfl ?_
    exact L179 wN (0 : Int32) h49 hl179
  refine r_aload_n C dX12_sits_0 rfl ?_
  obtain ⟨t100, e101, hf0⟩ := ob hf0
  refine r_getR C fk_X12_7 rfl dX12_sits_1 e101 ?_
  refine r_iconst (v := 5) C dX12_sits_4 (by decide) ?_
  obtain ⟨t102, e103, hf0⟩ := ob hf0
  refine r_ldI C dX12_sits_5 e103 ?_
  refine r_istore_n (lv' := [(2, .int t102), (0, .ref v0), (1, .int v1)]) C dX12_sits_6 (by decide) rfl rfl ?_
  refine r_aload_n C dX12_sits_7 rfl ?_
  obtain ⟨t104, e105, hf0⟩ := ob hf0
  refine r_getR C fk_X12_7 rfl dX12_sits_8 e105 ?_
  refine r_bipush (v := 6) C dX12_sits_11 (by decide) ?_
  obtain ⟨t106, e107, hf0⟩ := ob hf0
  refine r_ldI C dX12_sits_13 e107 ?_
  refine r_istore_n (lv' := [(3, .int t106), (2, .int t102), (0, .ref v0), (1, .int v1)]) C dX12_sits_14 (by decide) rfl rfl ?_
  refine r_iconst (v := 0) C dX12_sits_15 (by decide) ?_
  refine r_istore (lv' := [(4, .int (0 : Int32)), (3, .int t106), (2, .int t102), (0, .ref v0), (1, .int v1)]) C dX12_sits_16 (by decide) rfl rfl ?_
  obtain ⟨y108, hl18, hf0⟩ := ob hf0
  have L18 : ∀ (n : Nat) (t109 : Int32) (h110 : aH), whileL n (fun q : Int32 × aH => f_X12_sits_b18 v0 v1 t102 t106 q.1 q.2) (t109, h110) = some y108 → gW p l e (rmO 8 0 0) s m args below meth c (MQ below (eQ D cA B Hb out none) args s 0 0 (fun q => B ≤ q)) D cA B Hb 6 h110 18 [(0, .ref v0), (1, .int v1), (2, .int t102), (3, .int t106), (4, .int t109)] [] 0 0 := by
    intro n
    induction n with
    | zero => intro t109 h110 hz; cases hz
    | succ n ih18 =>
      intro t109 h110 hz
      obtain ⟨x18, hf1, hk18⟩ := wl hz
      replace hf1 : f_X12_sits_b18 v0 v1 t102 t106 t109 h110 = some x18 := hf1
      unfold f_X12_sits_b18 at hf1
      refine r_iload C dX12_sits_18 rfl ?_
      refine r_bipush (v := 48) C dX12_sits_20 (by decide) ?_
      refine r_icmp_ge (tgt := 48) C dX12_sits_22 (by decide) (fun c111 => ?_) (fun c111 => ?_)
      · rw [if_pos c111] at hf1
        obtain rfl := so hf1
        obtain rfl := so (show some h110 = some y108 from hk18)
        refine r_aload_n C dX12_sits_48 rfl ?_
        obtain ⟨t112, e113, hf0⟩ := ob hf0
        refine r_getR C fk_X12_7 rfl dX12_sits_49 e113 ?_
        refine r_iconst (v := 5) C dX12_sits_52 (by decide) ?_
        refine r_iconst (v := 0) C dX12_sits_53 (by decide) ?_
        obtain ⟨h114, e115, hf0⟩ := ob hf0
        refine r_stI C dX12_sits_54 e115 ?_
        refine r_aload_n C dX12_sits_55 rfl ?_
        obtain ⟨t116, e117, hf0⟩ := ob hf0
        refine r_getR C fk_X12_7 rfl dX12_sits_56 e117 ?_
        refine r_bipush (v := 6) C dX12_sits_59 (by decide) ?_
        refine r_iconst (v := 0) C dX12_sits_61 (by decide) ?_
        obtain ⟨h118, e119, hf0⟩ := ob hf0
        refine r_stI C dX12_sits_62 e119 ?_
        refine r_aload_n C dX12_sits_63 rfl ?_
        refine r_iload_n C dX12_sits_64 rfl ?_
        obtain ⟨h120, e121, hf0⟩ := ob hf0
        refine r_putI C fk_X12_465 dX12_sits_65 e121 ?_
        refine r_aload_n C dX12_sits_68 rfl ?_
        obtain ⟨u123, e122, hf0⟩ := ob hf0
        obtain ⟨h124, e125, hf0⟩ := ob hf0
        refine r_cV (ci := 12) (rest := []) (st2 := []) C (s_X12_drawsTruth e125) mk_X12_drawsTruth rfl (ck_k e122) (by decide) im_X12_drawsTruth sl_X12_drawsTruth lk_X12_492 rfl rfl rfl dX12_sits_69 (Nat.le_of_ble_eq_true rfl) ⟨Nat.le_of_ble_eq_true rfl, Nat.le_of_ble_eq_true rfl⟩ ⟨Nat.le_of_ble_eq_true rfl, Nat.le_of_ble_eq_true rfl⟩ ?_
        refine r_aload_n C dX12_sits_72 rfl ?_
        refine r_iconst (v := 2) C dX12_sits_73 (by decide) ?_
        obtain ⟨h126, e127, hf0⟩ := ob hf0
        refine r_putI C fk_X12_480 dX12_sits_74 e127 ?_
        refine r_iconst (v := 0) C dX12_sits_77 (by decide) ?_
        refine r_istore (lv' := [(4, .int (0 : Int32)), (0, .ref v0), (1, .int v1), (2, .int t102), (3, .int t106)]) C dX12_sits_78 (by decide) rfl rfl ?_
        obtain ⟨y128, hl80, hf0⟩ := ob hf0
        have L80 : ∀ (n : Nat) (t129 : Int32) (h130 : aH), whileL n (fun q : Int32 × aH => f_X12_sits_b80 v0 t102 t106 q.1 q.2) (t129, h130) = some y128 → gW p l e (rmO 8 0 0) s m args below meth c (MQ below (eQ D cA B Hb out none) args s 0 0 (fun q => B ≤ q)) D cA B Hb 6 h130 80 [(0, .ref v0), (2, .int t102), (3, .int t106), (4, .int t129)] [] 0 0 := by
          intro n
          induction n with
          | zero => intro t129 h130 hz; cases hz
          | succ n ih80 =>
            intro t129 h130 hz
            obtain ⟨x80, hf1, hk80⟩ := wl hz
            replace hf1 : f_X12_sits_b80 v0 t102 t106 t129 h130 = some x80 := hf1
            unfold f_X12_sits_b80 at hf1
            refine r_iload C dX12_sits_80 rfl ?_
            refine r_iconst (v := -1) C dX12_sits_82 (by decide) ?_
            refine r_icmp_eq (tgt := 109) C dX12_sits_83 (by decide) (fun c131 => ?_) (fun c131 => ?_)
            · rw [if_pos c131] at hf1
              obtain rfl := so hf1
              obtain rfl := so (show some h130 = some y128 from hk80)
              refine r_subk [0, 1, 2] (lv' := [(0, .ref v0), (2, .int t102), (3, .int t106)]) rfl ?_
              exact J109 h130 v0 t102 t106 hf0
            · rw [if_neg c131] at hf1
              refine r_iload C dX12_sits_86 rfl ?_
              refine r_aload_n C dX12_sits_88 rfl ?_
              obtain ⟨t132, e133, hf1⟩ := ob hf1
              refine r_getR C fk_X12_7 rfl dX12_sits_89 e133 ?_
              refine r_bipush (v := 7) C dX12_sits_92 (by decide) ?_
              obtain ⟨t134, e135, hf1⟩ := ob hf1
              refine r_ldI C dX12_sits_94 e135 ?_
              refine r_icmp_ge (tgt := 109) C dX12_sits_95 (by decide) (fun c136 => ?_) (fun c136 => ?_)
              · rw [if_pos c136] at hf1
                obtain rfl := so hf1
                obtain rfl := so (show some h130 = some y128 from hk80)
                refine r_subk [0, 1, 2] (lv' := [(0, .ref v0), (2, .int t102), (3, .int t106)]) rfl ?_
                exact J109 h130 v0 t102 t106 hf0
              · rw [if_neg c136] at hf1
                refine r_aload_n C dX12_sits_98 rfl ?_
                refine r_iload C dX12_sits_99 rfl ?_
                obtain ⟨u138, e137, hf1⟩ := ob hf1
                obtain ⟨t139, h140, e141, hf1⟩ := ob2 hf1
                refine r_cV (ci := 12) (rest := []) (st2 := [.int t139]) C (s_X12_doesStep e141) mk_X12_doesStep rfl (ck_k e137) (by decide) im_X12_doesStep sl_X12_doesStep lk_X12_495 rfl rfl rfl dX12_sits_101 (Nat.le_of_ble_eq_true rfl) ⟨Nat.le_of_ble_eq_true rfl, Nat.le_of_ble_eq_true rfl⟩ ⟨Nat.le_of_ble_eq_true rfl, Nat.le_of_ble_eq_true rfl⟩ ?_
                refine r_istore (lv' := [(4, .int t139), (0, .ref v0), (2, .int t102), (3, .int t106)]) C dX12_sits_104 (by decide) rfl rfl ?_
                refine r_goto (tgt := 80) C dX12_sits_106 (by decide) ?_
                obtain rfl := so hf1
                refine r_subk [1, 2, 3, 0] (lv' := [(0, .ref v0), (2, .int t102), (3, .int t106), (4, .int t139)]) rfl ?_
                exact ih80 t139 h140 hk80
        refine r_subk [1, 3, 4, 0] (lv' := [(0, .ref v0), (2, .int t102), (3, .int t106), (4, .int (0 : Int32))]) rfl ?_
        exact L80 wN (0 : Int32) h126 hl80
      · rw [if_neg c111] at hf1
        refine r_aload_n C dX12_sits_25 rfl ?_
        obtain ⟨t142, e143, hf1⟩ := ob hf1
        refine r_getR C fk_X12_85 rfl dX12_sits_26 e143 ?_
        refine r_iload C dX12_sits_29 rfl ?_
        refine r_aload_n C dX12_sits_31 rfl ?_
        obtain ⟨t144, e145, hf1⟩ := ob hf1
        refine r_getR C fk_X12_7 rfl dX12_sits_32 e145 ?_
        refine r_bipush (v := 100) C dX12_sits_35 (by decide) ?_
        refine r_iload C dX12_sits_37 rfl ?_
        refine r_iadd C dX12_sits_39 ?_
        obtain ⟨t146, e147, hf1⟩ := ob hf1
        refine r_ldI C dX12_sits_40 e147 ?_
        obtain ⟨h148, e149, hf1⟩ := ob hf1
        refine r_stI C dX12_sits_41 e149 ?_
        obtain ⟨t150, e151, hf1⟩ := ob hf1
        refine r_iinc (lv' := [(4, .int t150), (0, .ref v0), (1, .int v1), (2, .int t102), (3, .int t106)]) C dX12_sits_42 rfl e151 (by decide) rfl ?_
        refine r_goto (tgt := 18) C dX12_sits_45 (by decide) ?_
        obtain rfl := so hf1
        refine r_subk [1, 2, 3, 4, 0] (lv' := [(0, .ref v0), (1, .int v1), (2, .int t102), (3, .int t106), (4, .int t150)]) rfl ?_
        exact ih18 t150 h148 hk18
  refine r_subk [3, 4, 2, 1, 0] (lv' := [(0, .ref v0), (1, .int v1), (2, .int t102), (3, .int t106), (4, .int (0 : Int32))]) rfl ?_
  exact L18 wN (0 : Int32) h hl18
def f_X12_canSit (h : aH) (v0 : Nat) : Option (Int32) := (gR h 12 v0 0).bind fun t1 => (lI h t1 (7 : Int32)).bind fun t2 => if t2 = (-1 : Int32) then some (0 : Int32) else (ck h 12 v0).bind fun _ => (f_X12_size h v0 (0 : Int32)).bind fun t3 => if t3 ≤ 0 then some (0 : Int32) else some (1 : Int32)
theorem s_X12_canSit {h : aH} {v0 : Nat} {out : Int32} (hf0 : f_X12_canSit h v0 = some out) : EV 2 yX12_canSit cX12_canSit 1 (some .boolean) h [.ref v0] (some (.int out)) h 0 0 := by
  refine EV.of (own := RX12) (lv0 := [(0, .ref v0)]) (by decide +kernel) rfl rfl (Nat.le_of_ble_eq_true rfl) ?_
  intro p l e s m args below meth c D cA B Hb C hin
  unfold f_X12_canSit at hf0
  refine r_aload_n C dX12_canSit_0 rfl ?_
  obtain ⟨t1, e2, hf0⟩ := ob hf0
  refine r_getR C fk_X12_7 rfl dX12_canSit_1 e2 ?_
  refine r_bipush (v := 7) C dX12_canSit_4 (by decide) ?_
  obtain ⟨t3, e4, hf0⟩ := ob hf0
  refine r_ldI C dX12_canSit_6 e4 ?_
  refine r_iconst (v := -1) C dX12_canSit_7 (by decide) ?_
  refine r_icmp_eq (tgt := 23) C dX12_canSit_8 (by decide) (fun c5 => ?_) (fun c5 => ?_)
  · rw [if_pos c5] at hf0
    refine r_iconst (v := 0) C dX12_canSit_23 (by decide) ?_
    obtain rfl := so hf0
    exact r_zret C dX12_canSit_24 (Or.inl rfl)
  · rw [if_neg c5] at hf0
    refine r_aload_n C dX12_canSit_11 rfl ?_
    refine r_iconst (v := 0) C dX12_canSit_12 (by decide) ?_
    obtain ⟨u7, e6, hf0⟩ := ob hf0
    obtain ⟨t8, e9, hf0⟩ := ob hf0
    refine r_cV (ci := 12) (rest := []) (st2 := [.int t8]) C (s_X12_size e9) mk_X12_size rfl (ck_k e6) (by decide) im_X12_size sl_X12_size lk_X12_298 rfl rfl rfl dX12_canSit_13 (Nat.le_of_ble_eq_true rfl) ⟨Nat.le_of_ble_eq_true rfl, Nat.le_of_ble_eq_true rfl⟩ ⟨Nat.le_of_ble_eq_true rfl, Nat.le_of_ble_eq_true rfl⟩ ?_
    refine r_ifle (tgt := 23) C dX12_canSit_16 (by decide) (fun c10 => ?_) (fun c10 => ?_)
    · rw [if_pos c10] at hf0
      refine r_iconst (v := 0) C dX12_canSit_23 (by decide) ?_
      obtain rfl := so hf0
      exact r_zret C dX12_canSit_24 (Or.inl rfl)
    · rw [if_neg c10] at hf0
      refine r_iconst (v := 1) C dX12_canSit_19 (by decide) ?_
      refine r_goto (tgt := 24) C dX12_canSit_20 (by decide) ?_
      obtain rfl := so hf0
      exact r_zret C dX12_canSit_24 (Or.inr rfl)
def f_X12_sit_b39 (v0 : Nat) (v2 : Int32) (h : aH) : Option ((Int32 × aH) ⊕ (aH)) := if (6 : Int32) ≤ v2 then some (.inr h) else (gR h 12 v0 46).bind fun t4 => (gR h 12 v0 44).bind fun t5 => (lI h t5 v2).bind fun t6 => (sI h t4 v2 t6).bind fun h7 => (some (v2 + (1 : Int32))).bind fun t8 => some (.inl (t8, h7))
def f_X12_sit_l39 (v0 : Nat) (v2 : Int32) (h : aH) : Option (aH) := whileL wN (fun q : Int32 × aH => f_X12_sit_b39 v0 q.1 q.2) (v2, h)
def f_X12_sit (h : aH) (v0 : Nat) (v1 : Int32) : Option (Int32 × aH) := (f_X12_isFrom h (Int32.toInt64 v1) (0 : Int64) (9999 : Int64)).bind fun t1 => if t1 = 0 then (ck h 12 v0).bind fun _ => bd2 (f_X12_refuse h v0 (1 : Int32)) fun t16 h17 => some (t16, h17) else (ck h 12 v0).bind fun _ => (f_X12_canSit h v0).bind fun t2 => if t2 = 0 then (ck h 12 v0).bind fun _ => bd2 (f_X12_refuse h v0 (6 : Int32)) fun t14 h15 => some (t14, h15) else (ck h 12 v0).bind fun _ => (f_X12_sits h v0 v1).bind fun h3 => (f_X12_sit_l39 v0 (0 : Int32) h3).bind fun h9 => (pZ h9 12 v0 45 (1 : Int32)).bind fun h10 => (gI h10 12 v0 41).bind fun t11 => (ck h10 12 v0).bind fun _ => bd2 (f_X12_gives h10 v0 t11) fun t12 h13 => some (t12, h13)
theorem s_X12_sit {h : aH} {v0 : Nat} {v1 : Int32} {out : Int32 × aH} (hf0 : f_X12_sit h v0 v1 = some out) : EV 9 yX12_sit cX12_sit 3 (some .int) h [.ref v0, .int v1] (some (.int out.1)) out.2 0 0 := by
  refine EV.of (own := RX12) (lv0 := [(0, .ref v0), (1, .int v1)]) (by decide +kernel) rfl rfl (Nat.le_of_ble_eq_true rfl) ?_
  intro p l e s m args below meth c D cA B Hb C hin
  unfold f_X12_sit at hf0
  refine r_iload_n C dX12_sit_0 rfl ?_
  refine r_i2l C dX12_sit_1 ?_
  refine r_lconst (v := 0) C dX12_sit_2 (by decide) ?_
  refine r_ldc2 (v := 9999) C dX12_sit_3 cl_X12_498 ?_
  obtain ⟨t1, e2, hf0⟩ := ob hf0
  refine r_cS (rest := []) (st2 := [.int t1]) C (s_X12_isFrom e2) mk_X12_isFrom sm_X12_isFrom lk_X12_500 rfl rfl rfl dX12_sit_6 (Nat.le_of_ble_eq_true rfl) ⟨Nat.le_of_ble_eq_true rfl, Nat.le_of_ble_eq_true rfl⟩ ⟨Nat.le_of_ble_eq_true rfl, Nat.le_of_ble_eq_true rfl⟩ ?_
  refine r_ifne (tgt := 18) C dX12_sit_9 (by decide) (fun c3 => ?_) (fun c3 => ?_)
  · rw [if_neg c3] at hf0
    refine r_aload_n C dX12_sit_18 rfl ?_
    obtain ⟨u5, e4, hf0⟩ := ob hf0
    obtain ⟨t6, e7, hf0⟩ := ob hf0
    refine r_cV (ci := 12) (rest := []) (st2 := [.int t6]) C (s_X12_canSit e7) mk_X12_canSit rfl (ck_k e4) (by decide) im_X12_canSit sl_X12_canSit lk_X12_504 rfl rfl rfl dX12_sit_19 (Nat.le_of_ble_eq_true rfl) ⟨Nat.le_of_ble_eq_true rfl, Nat.le_of_ble_eq_true rfl⟩ ⟨Nat.le_of_ble_eq_true rfl, Nat.le_of_ble_eq_true rfl⟩ ?_
    refine r_ifne (tgt := 32) C dX12_sit_22 (by decide) (fun c8 => ?_) (fun c8 => ?_)
    · rw [if_neg c8] at hf0
      refine r_aload_n C dX12_sit_32 rfl ?_
      refine r_iload_n C dX12_sit_33 rfl ?_
      obtain ⟨u10, e9, hf0⟩ := ob hf0
      obtain ⟨h11, e12, hf0⟩ := ob hf0
      refine r_cV (ci := 12) (rest := []) (st2 := []) C (s_X12_sits e12) mk_X12_sits rfl (ck_k e9) (by decide) im_X12_sits sl_X12_sits lk_X12_507 rfl rfl rfl dX12_sit_34 (Nat.le_of_ble_eq_true rfl) ⟨Nat.le_of_ble_eq_true rfl, Nat.le_of_ble_eq_true rfl⟩ ⟨Nat.le_of_ble_eq_true rfl, Nat.le_of_ble_eq_true rfl⟩ ?_
      refine r_iconst (v := 0) C dX12_sit_37 (by decide) ?_
      refine r_istore_n (lv' := [(2, .int (0 : Int32)), (0, .ref v0), (1, .int v1)]) C dX12_sit_38 (by decide) rfl rfl ?_
      obtain ⟨y13, hl39, hf0⟩ := ob hf0
      have L39 : ∀ (n : Nat) (t14 : Int32) (h15 : aH), whileL n (fun q : Int32 × aH => f_X12_sit_b39 v0 q.1 q.2) (t14, h15) = some y13 → gW p l e (rmO 9 0 0) s m args below meth c (MQ below (eQ D cA B Hb out.2 (some (.int out.1))) args s 0 0 (fun q => B ≤ q)) D cA B Hb 3 h15 39 [(0, .ref v0), (2, .int t14)] [] 0 0 := by
        intro n
        induction n with
        | zero => intro t14 h15 hz; cases hz
        | succ n ih39 =>
          intro t14 h15 hz
          obtain ⟨x39, hf1, hk39⟩ := wl hz
          replace hf1 : f_X12_sit_b39 v0 t14 h15 = some x39 := hf1
          unfold f_X12_sit_b39 at hf1
          refine r_iload_n C dX12_sit_39 rfl ?_
          refine r_bipush (v := 6) C dX12_sit_40 (by decide) ?_
          refine r_icmp_ge (tgt := 63) C dX12_sit_42 (by decide) (fun c16 => ?_) (fun c16 => ?_)
          · rw [if_pos c16] at hf1
            obtain rfl := so hf1
            obtain rfl := so (show some h15 = some y13 from hk39)
            refine r_aload_n C dX12_sit_63 rfl ?_
            refine r_iconst (v := 1) C dX12_sit_64 (by decide) ?_
            obtain ⟨h17, e18, hf0⟩ := ob hf0
            refine r_putZ C fk_X12_510 dX12_sit_65 e18 ?_
            refine r_aload_n C dX12_sit_68 rfl ?_
            refine r_aload_n C dX12_sit_69 rfl ?_
            obtain ⟨t19, e20, hf0⟩ := ob hf0
            refine r_getI C fk_X12_480 rfl dX12_sit_70 e20 ?_
            obtain ⟨u22, e21, hf0⟩ := ob hf0
            obtain ⟨t23, h24, e25, hf0⟩ := ob2 hf0
            refine r_cV (ci := 12) (rest := []) (st2 := [.int t23]) C (s_X12_gives e25) mk_X12_gives rfl (ck_k e21) (by decide) im_X12_gives sl_X12_gives lk_X12_200 rfl rfl rfl dX12_sit_73 (Nat.le_of_ble_eq_true rfl) ⟨Nat.le_of_ble_eq_true rfl, Nat.le_of_ble_eq_true rfl⟩ ⟨Nat.le_of_ble_eq_true rfl, Nat.le_of_ble_eq_true rfl⟩ ?_
            obtain rfl := so hf0
            exact r_iret C dX12_sit_76
          · rw [if_neg c16] at hf1
            refine r_aload_n C dX12_sit_45 rfl ?_
            obtain ⟨t26, e27, hf1⟩ := ob hf1
            refine r_getR C fk_X12_91 rfl dX12_sit_46 e27 ?_
            refine r_iload_n C dX12_sit_49 rfl ?_
            refine r_aload_n C dX12_sit_50 rfl ?_
            obtain ⟨t28, e29, hf1⟩ := ob hf1
            refine r_getR C fk_X12_88 rfl dX12_sit_51 e29 ?_
            refine r_iload_n C dX12_sit_54 rfl ?_
            obtain ⟨t30, e31, hf1⟩ := ob hf1
            refine r_ldI C dX12_sit_55 e31 ?_
            obtain ⟨h32, e33, hf1⟩ := ob hf1
            refine r_stI C dX12_sit_56 e33 ?_
            obtain ⟨t34, e35, hf1⟩ := ob hf1
            refine r_iinc (lv' := [(2, .int t34), (0, .ref v0)]) C dX12_sit_57 rfl e35 (by decide) rfl ?_
            refine r_goto (tgt := 39) C dX12_sit_60 (by decide) ?_
            obtain rfl := so hf1
            refine r_subk [1, 0] (lv' := [(0, .ref v0), (2, .int t34)]) rfl ?_
            exact ih39 t34 h32 hk39
      refine r_subk [1, 0] (lv' := [(0, .ref v0), (2, .int (0 : Int32))]) rfl ?_
      exact L39 wN (0 : Int32) h11 hl39
    · rw [if_pos c8] at hf0
      refine r_aload_n C dX12_sit_25 rfl ?_
      refine r_bipush (v := 6) C dX12_sit_26 (by decide) ?_
      obtain ⟨u37, e36, hf0⟩ := ob hf0
      obtain ⟨t38, h39, e40, hf0⟩ := ob2 hf0
      refine r_cV (ci := 12) (rest := []) (st2 := [.int t38]) C (s_X12_refuse e40) mk_X12_refuse rfl (ck_k e36) (by decide) im_X12_refuse sl_X12_refuse lk_X12_197 rfl rfl rfl dX12_sit_28 (Nat.le_of_ble_eq_true rfl) ⟨Nat.le_of_ble_eq_true rfl, Nat.le_of_ble_eq_true rfl⟩ ⟨Nat.le_of_ble_eq_true rfl, Nat.le_of_ble_eq_true rfl⟩ ?_
      obtain rfl := so hf0
      exact r_iret C dX12_sit_31
  · rw [if_pos c3] at hf0
    refine r_aload_n C dX12_sit_12 rfl ?_
    refine r_iconst (v := 1) C dX12_sit_13 (by decide) ?_
    obtain ⟨u42, e41, hf0⟩ := ob hf0
    obtain ⟨t43, h44, e45, hf0⟩ := ob2 hf0
    refine r_cV (ci := 12) (rest := []) (st2 := [.int t43]) C (s_X12_refuse e45) mk_X12_refuse rfl (ck_k e41) (by decide) im_X12_refuse sl_X12_refuse lk_X12_197 rfl rfl rfl dX12_sit_14 (Nat.le_of_ble_eq_true rfl) ⟨Nat.le_of_ble_eq_true rfl, Nat.le_of_ble_eq_true rfl⟩ ⟨Nat.le_of_ble_eq_true rfl, Nat.le_of_ble_eq_true rfl⟩ ?_
    obtain rfl := so hf0
    exact r_iret C dX12_sit_17
def f_X12_sat_j9 (h : aH) (v0 : Nat) : Option (Int32 × aH) := (ck h 12 v0).bind fun _ => bd2 (f_X12_refuse h v0 (1 : Int32)) fun t1 h2 => some (t1, h2)
def f_X12_sat (h : aH) (v0 : Nat) (v1 : Int32) : Option (Int32 × aH) := if v1 < 0 then f_X12_sat_j9 h v0 else if v1 ≤ (5 : Int32) then (gI h 12 v0 45).bind fun t3 => if t3 = 0 then (ck h 12 v0).bind fun _ => bd2 (f_X12_refuse h v0 (6 : Int32)) fun t8 h9 => some (t8, h9) else (gR h 12 v0 46).bind fun t4 => (lI h t4 v1).bind fun t5 => (ck h 12 v0).bind fun _ => bd2 (f_X12_gives h v0 t5) fun t6 h7 => some (t6, h7) else f_X12_sat_j9 h v0
theorem s_X12_sat {h : aH} {v0 : Nat} {v1 : Int32} {out : Int32 × aH} (hf0 : f_X12_sat h v0 v1 = some out) : EV 1 yX12_sat cX12_sat 2 (some .int) h [.ref v0, .int v1] (some (.int out.1)) out.2 0 0 := by
  refine EV.of (own := RX12) (lv0 := [(0, .ref v0), (1, .int v1)]) (by decide +kernel) rfl rfl (Nat.le_of_ble_eq_true rfl) ?_
  intro p l e s m args below meth c D cA B Hb C hin
  unfold f_X12_sat at hf0
  have J9 : ∀ (h1 : aH) (t2 : Nat), f_X12_sat_j9 h1 t2 = some out → gW p l e (rmO 1 0 0) s m args below meth c (MQ below (eQ D cA B Hb out.2 (some (.int out.1))) args s 0 0 (fun q => B ≤ q)) D cA B Hb 2 h1 9 [(0, .ref t2)] [] 0 0 := by
    intro h1 t2 hf0
    unfold f_X12_sat_j9 at hf0
    refine r_aload_n C dX12_sat_9 rfl ?_
    refine r_iconst (v := 1) C dX12_sat_10 (by decide) ?_
    obtain ⟨u4, e3, hf0⟩ := ob hf0
    obtain ⟨t5, h6, e7, hf0⟩ := ob2 hf0
    refine r_cV (ci := 12) (rest := []) (st2 := [.int t5]) C (s_X12_refuse e7) mk_X12_refuse rfl (ck_k e3) (by decide) im_X12_refuse sl_X12_refuse lk_X12_197 rfl rfl rfl dX12_sat_11 (Nat.le_of_ble_eq_true rfl) ⟨Nat.le_of_ble_eq_true rfl, Nat.le_of_ble_eq_true rfl⟩ ⟨Nat.le_of_ble_eq_true rfl, Nat.le_of_ble_eq_true rfl⟩ ?_
    refine r_goto (tgt := 43) C dX12_sat_14 (by decide) ?_
    obtain rfl := so hf0
    exact r_iret C dX12_sat_43
  refine r_iload_n C dX12_sat_0 rfl ?_
  refine r_iflt (tgt := 9) C dX12_sat_1 (by decide) (fun c8 => ?_) (fun c8 => ?_)
  · rw [if_pos c8] at hf0
    refine r_subk [0] (lv' := [(0, .ref v0)]) rfl ?_
    exact J9 h v0 hf0
  · rw [if_neg c8] at hf0
    refine r_iload_n C dX12_sat_4 rfl ?_
    refine r_iconst (v := 5) C dX12_sat_5 (by decide) ?_
    refine r_icmp_le (tgt := 17) C dX12_sat_6 (by decide) (fun c9 => ?_) (fun c9 => ?_)
    · rw [if_pos c9] at hf0
      refine r_aload_n C dX12_sat_17 rfl ?_
      obtain ⟨t10, e11, hf0⟩ := ob hf0
      refine r_getI C fk_X12_510 rfl dX12_sat_18 e11 ?_
      refine r_ifne (tgt := 33) C dX12_sat_21 (by decide) (fun c12 => ?_) (fun c12 => ?_)
      · rw [if_neg c12] at hf0
        refine r_aload_n C dX12_sat_33 rfl ?_
        refine r_aload_n C dX12_sat_34 rfl ?_
        obtain ⟨t13, e14, hf0⟩ := ob hf0
        refine r_getR C fk_X12_91 rfl dX12_sat_35 e14 ?_
        refine r_iload_n C dX12_sat_38 rfl ?_
        obtain ⟨t15, e16, hf0⟩ := ob hf0
        refine r_ldI C dX12_sat_39 e16 ?_
        obtain ⟨u18, e17, hf0⟩ := ob hf0
        obtain ⟨t19, h20, e21, hf0⟩ := ob2 hf0
        refine r_cV (ci := 12) (rest := []) (st2 := [.int t19]) C (s_X12_gives e21) mk_X12_gives rfl (ck_k e17) (by decide) im_X12_gives sl_X12_gives lk_X12_200 rfl rfl rfl dX12_sat_40 (Nat.le_of_ble_eq_true rfl) ⟨Nat.le_of_ble_eq_true rfl, Nat.le_of_ble_eq_true rfl⟩ ⟨Nat.le_of_ble_eq_true rfl, Nat.le_of_ble_eq_true rfl⟩ ?_
        obtain rfl := so hf0
        exact r_iret C dX12_sat_43
      · rw [if_pos c12] at hf0
        refine r_aload_n C dX12_sat_24 rfl ?_
        refine r_bipush (v := 6) C dX12_sat_25 (by decide) ?_
        obtain ⟨u23, e22, hf0⟩ := ob hf0
        obtain ⟨t24, h25, e26, hf0⟩ := ob2 hf0
        refine r_cV (ci := 12) (rest := []) (st2 := [.int t24]) C (s_X12_refuse e26) mk_X12_refuse rfl (ck_k e22) (by decide) im_X12_refuse sl_X12_refuse lk_X12_197 rfl rfl rfl dX12_sat_27 (Nat.le_of_ble_eq_true rfl) ⟨Nat.le_of_ble_eq_true rfl, Nat.le_of_ble_eq_true rfl⟩ ⟨Nat.le_of_ble_eq_true rfl, Nat.le_of_ble_eq_true rfl⟩ ?_
        refine r_goto (tgt := 43) C dX12_sat_30 (by decide) ?_
        obtain rfl := so hf0
        exact r_iret C dX12_sat_43
    · rw [if_neg c9] at hf0
      refine r_subk [0] (lv' := [(0, .ref v0)]) rfl ?_
      exact J9 h v0 hf0
def f_X12_tally_j44 (h : aH) (v0 : Nat) : Option (Int32 × aH) := (ck h 12 v0).bind fun _ => bd2 (f_X12_refuse h v0 (1 : Int32)) fun t1 h2 => some (t1, h2)
def f_X12_tally_j99 (h : aH) (v0 : Nat) (v1 : Int32) (v2 : Int32) (v3 : Int32) (v5 : Int32) (s0 : Int32) (s1 : Int32) : Option ((Int32 × Int32 × aH) ⊕ (Int32 × aH)) := (some (s0 + s1)).bind fun t6 => (some (v5 + (1 : Int32))).bind fun t7 => some (.inl (t6, t7, h))
def f_X12_tally_b70 (v0 : Nat) (v1 : Int32) (v2 : Int32) (v3 : Int32) (v4 : Int32) (v5 : Int32) (h : aH) : Option ((Int32 × Int32 × aH) ⊕ (Int32 × aH)) := if v2 ≤ v5 then some (.inr (v4, h)) else (ck h 12 v0).bind fun _ => (f_X12_sits h v0 (v1 + v5)).bind fun h8 => (gI h8 12 v0 41).bind fun t9 => if t9 = v3 then f_X12_tally_j99 h8 v0 v1 v2 v3 v5 v4 (1 : Int32) else f_X12_tally_j99 h8 v0 v1 v2 v3 v5 v4 (0 : Int32)
def f_X12_tally_l70 (v0 : Nat) (v1 : Int32) (v2 : Int32) (v3 : Int32) (v4 : Int32) (v5 : Int32) (h : aH) : Option (Int32 × aH) := whileL wN (fun q : Int32 × Int32 × aH => f_X12_tally_b70 v0 v1 v2 v3 q.1 q.2.1 q.2.2) (v4, v5, h)
def f_X12_tally (h : aH) (v0 : Nat) (v1 : Int32) (v2 : Int32) (v3 : Int32) : Option (Int32 × aH) := (f_X12_isFrom h (Int32.toInt64 v1) (0 : Int64) (9999 : Int64)).bind fun t3 => if t3 = 0 then f_X12_tally_j44 h v0 else (f_X12_isFrom h (Int32.toInt64 v2) (1 : Int64) (30 : Int64)).bind fun t4 => if t4 = 0 then f_X12_tally_j44 h v0 else if (9999 : Int32) < ((v1 + v2) - (1 : Int32)) then f_X12_tally_j44 h v0 else if v3 < 0 then f_X12_tally_j44 h v0 else if v3 ≤ (2 : Int32) then (ck h 12 v0).bind fun _ => (f_X12_canSit h v0).bind fun t5 => if t5 = 0 then (ck h 12 v0).bind fun _ => bd2 (f_X12_refuse h v0 (6 : Int32)) fun t14 h15 => some (t14, h15) else bd2 (f_X12_tally_l70 v0 v1 v2 v3 (0 : Int32) (0 : Int32) h) fun t10 h11 => (ck h11 12 v0).bind fun _ => bd2 (f_X12_gives h11 v0 t10) fun t12 h13 => some (t12, h13) else f_X12_tally_j44 h v0
theorem s_X12_tally {h : aH} {v0 : Nat} {v1 : Int32} {v2 : Int32} {v3 : Int32} {out : Int32 × aH} (hf0 : f_X12_tally h v0 v1 v2 v3 = some out) : EV 9 yX12_tally cX12_tally 6 (some .int) h [.ref v0, .int v1, .int v2, .int v3] (some (.int out.1)) out.2 0 0 := by
  refine EV.of (own := RX12) (lv0 := [(0, .ref v0), (1, .int v1), (2, .int v2), (3, .int v3)]) (by decide +kernel) rfl rfl (Nat.le_of_ble_eq_true rfl) ?_
  intro p l e s m args below meth c D cA B Hb C hin
  unfold f_X12_tally at hf0
  have J44 : ∀ (h1 : aH) (t2 : Nat), f_X12_tally_j44 h1 t2 = some out → gW p l e (rmO 9 0 0) s m args below meth c (MQ below (eQ D cA B Hb out.2 (some (.int out.1))) args s 0 0 (fun q => B ≤ q)) D cA B Hb 6 h1 44 [(0, .ref t2)] [] 0 0 := by
    intro h1 t2 hf0
    unfold f_X12_tally_j44 at hf0
    refine r_aload_n C dX12_tally_44 rfl ?_
    refine r_iconst (v := 1) C dX12_tally_45 (by decide) ?_
    obtain ⟨u4, e3, hf0⟩ := ob hf0
    obtain ⟨t5, h6, e7, hf0⟩ := ob2 hf0
    refine r_cV (ci := 12) (rest := []) (st2 := [.int t5]) C (s_X12_refuse e7) mk_X12_refuse rfl (ck_k e3) (by decide) im_X12_refuse sl_X12_refuse lk_X12_197 rfl rfl rfl dX12_tally_46 (Nat.le_of_ble_eq_true rfl) ⟨Nat.le_of_ble_eq_true rfl, Nat.le_of_ble_eq_true rfl⟩ ⟨Nat.le_of_ble_eq_true rfl, Nat.le_of_ble_eq_true rfl⟩ ?_
    obtain rfl := so hf0
    exact r_iret C dX12_tally_49
  refine r_iload_n C dX12_tally_0 rfl ?_
  refine r_i2l C dX12_tally_1 ?_
  refine r_lconst (v := 0) C dX12_tally_2 (by decide) ?_
  refine r_ldc2 (v := 9999) C dX12_tally_3 cl_X12_498 ?_
  obtain ⟨t8, e9, hf0⟩ := ob hf0
  refine r_cS (rest := []) (st2 := [.int t8]) C (s_X12_isFrom e9) mk_X12_isFrom sm_X12_isFrom lk_X12_500 rfl rfl rfl dX12_tally_6 (Nat.le_of_ble_eq_true rfl) ⟨Nat.le_of_ble_eq_true rfl, Nat.le_of_ble_eq_true rfl⟩ ⟨Nat.le_of_ble_eq_true rfl, Nat.le_of_ble_eq_true rfl⟩ ?_
  refine r_ifeq (tgt := 44) C dX12_tally_9 (by decide) (fun c10 => ?_) (fun c10 => ?_)
  · rw [if_pos c10] at hf0
    refine r_subk [0] (lv' := [(0, .ref v0)]) rfl ?_
    exact J44 h v0 hf0
  · rw [if_neg c10] at hf0
    refine r_iload_n C dX12_tally_12 rfl ?_
    refine r_i2l C dX12_tally_13 ?_
    refine r_lconst (v := 1) C dX12_tally_14 (by decide) ?_
    refine r_ldc2 (v := 30) C dX12_tally_15 cl_X12_514 ?_
    obtain ⟨t11, e12, hf0⟩ := ob hf0
    refine r_cS (rest := []) (st2 := [.int t11]) C (s_X12_isFrom e12) mk_X12_isFrom sm_X12_isFrom lk_X12_500 rfl rfl rfl dX12_tally_18 (Nat.le_of_ble_eq_true rfl) ⟨Nat.le_of_ble_eq_true rfl, Nat.le_of_ble_eq_true rfl⟩ ⟨Nat.le_of_ble_eq_true rfl, Nat.le_of_ble_eq_true rfl⟩ ?_
    refine r_ifeq (tgt := 44) C dX12_tally_21 (by decide) (fun c13 => ?_) (fun c13 => ?_)
    · rw [if_pos c13] at hf0
      refine r_subk [0] (lv' := [(0, .ref v0)]) rfl ?_
      exact J44 h v0 hf0
    · rw [if_neg c13] at hf0
      refine r_iload_n C dX12_tally_24 rfl ?_
      refine r_iload_n C dX12_tally_25 rfl ?_
      refine r_iadd C dX12_tally_26 ?_
      refine r_iconst (v := 1) C dX12_tally_27 (by decide) ?_
      refine r_isub C dX12_tally_28 ?_
      refine r_sipush (v := 9999) C dX12_tally_29 (by decide) ?_
      refine r_icmp_gt (tgt := 44) C dX12_tally_32 (by decide) (fun c14 => ?_) (fun c14 => ?_)
      · rw [if_pos c14] at hf0
        refine r_subk [0] (lv' := [(0, .ref v0)]) rfl ?_
        exact J44 h v0 hf0
      · rw [if_neg c14] at hf0
        refine r_iload_n C dX12_tally_35 rfl ?_
        refine r_iflt (tgt := 44) C dX12_tally_36 (by decide) (fun c15 => ?_) (fun c15 => ?_)
        · rw [if_pos c15] at hf0
          refine r_subk [0] (lv' := [(0, .ref v0)]) rfl ?_
          exact J44 h v0 hf0
        · rw [if_neg c15] at hf0
          refine r_iload_n C dX12_tally_39 rfl ?_
          refine r_iconst (v := 2) C dX12_tally_40 (by decide) ?_
          refine r_icmp_le (tgt := 50) C dX12_tally_41 (by decide) (fun c16 => ?_) (fun c16 => ?_)
          · rw [if_pos c16] at hf0
            refine r_aload_n C dX12_tally_50 rfl ?_
            obtain ⟨u18, e17, hf0⟩ := ob hf0
            obtain ⟨t19, e20, hf0⟩ := ob hf0
            refine r_cV (ci := 12) (rest := []) (st2 := [.int t19]) C (s_X12_canSit e20) mk_X12_canSit rfl (ck_k e17) (by decide) im_X12_canSit sl_X12_canSit lk_X12_504 rfl rfl rfl dX12_tally_51 (Nat.le_of_ble_eq_true rfl) ⟨Nat.le_of_ble_eq_true rfl, Nat.le_of_ble_eq_true rfl⟩ ⟨Nat.le_of_ble_eq_true rfl, Nat.le_of_ble_eq_true rfl⟩ ?_
            refine r_ifne (tgt := 64) C dX12_tally_54 (by decide) (fun c21 => ?_) (fun c21 => ?_)
            · rw [if_neg c21] at hf0
              refine r_iconst (v := 0) C dX12_tally_64 (by decide) ?_
              refine r_istore (lv' := [(4, .int (0 : Int32)), (0, .ref v0), (1, .int v1), (2, .int v2), (3, .int v3)]) C dX12_tally_65 (by decide) rfl rfl ?_
              refine r_iconst (v := 0) C dX12_tally_67 (by decide) ?_
              refine r_istore (lv' := [(5, .int (0 : Int32)), (4, .int (0 : Int32)), (0, .ref v0), (1, .int v1), (2, .int v2), (3, .int v3)]) C dX12_tally_68 (by decide) rfl rfl ?_
              obtain ⟨y22, y23, hl70, hf0⟩ := ob2 hf0
              have L70 : ∀ (n : Nat) (t24 : Int32) (t25 : Int32) (h26 : aH), whileL n (fun q : Int32 × Int32 × aH => f_X12_tally_b70 v0 v1 v2 v3 q.1 q.2.1 q.2.2) (t24, t25, h26) = some (y22, y23) → gW p l e (rmO 9 0 0) s m args below meth c (MQ below (eQ D cA B Hb out.2 (some (.int out.1))) args s 0 0 (fun q => B ≤ q)) D cA B Hb 6 h26 70 [(0, .ref v0), (1, .int v1), (2, .int v2), (3, .int v3), (4, .int t24), (5, .int t25)] [] 0 0 := by
                intro n
                induction n with
                | zero => intro t24 t25 h26 hz; cases hz
                | succ n ih70 =>
                  intro t24 t25 h26 hz
                  obtain ⟨x70, hf1, hk70⟩ := wl hz
                  replace hf1 : f_X12_tally_b70 v0 v1 v2 v3 t24 t25 h26 = some x70 := hf1
                  unfold f_X12_tally_b70 at hf1
                  have J99 : ∀ (h27 : aH) (t28 : Int32) (t29 : Int32) (t30 : Int32), f_X12_tally_j99 h27 v0 v1 v2 v3 t28 t29 t30 = some x70 → gW p l e (rmO 9 0 0) s m args below meth c (MQ below (eQ D cA B Hb out.2 (some (.int out.1))) args s 0 0 (fun q => B ≤ q)) D cA B Hb 6 h27 99 [(0, .ref v0), (1, .int v1), (2, .int v2), (3, .int v3), (5, .int t28)] [.int t30, .int t29] 0 0 := by
                    intro h27 t28 t29 t30 hf1
                    unfold f_X12_tally_j99 at hf1
                    refine r_iadd C dX12_tally_99 ?_
                    obtain ⟨t31, e32, hf1⟩ := ob hf1
                    refine r_istore (lv' := [(4, .int t31), (0, .ref v0), (1, .int v1), (2, .int v2), (3, .int v3), (5, .int t28)]) C dX12_tally_100 (by decide) e32 rfl ?_
                    obtain ⟨t33, e34, hf1⟩ := ob hf1
                    refine r_iinc (lv' := [(5, .int t33), (4, .int t31), (0, .ref v0), (1, .int v1), (2, .int v2), (3, .int v3)]) C dX12_tally_102 rfl e34 (by decide) rfl ?_
                    refine r_goto (tgt := 70) C dX12_tally_105 (by decide) ?_
                    obtain rfl := so hf1
                    refine r_subk [2, 3, 4, 5, 1, 0] (lv' := [(0, .ref v0), (1, .int v1), (2, .int v2), (3, .int v3), (4, .int t31), (5, .int t33)]) rfl ?_
                    exact ih70 t31 t33 h27 hk70
                  refine r_iload C dX12_tally_70 rfl ?_
                  refine r_iload_n C dX12_tally_72 rfl ?_
                  refine r_icmp_ge (tgt := 108) C dX12_tally_73 (by decide) (fun c35 => ?_) (fun c35 => ?_)
                  · rw [if_pos c35] at hf1
                    obtain rfl := so hf1
                    obtain ⟨rfl, rfl⟩ := so2 (show some (t24, h26) = some (y22, y23) from hk70)
                    refine r_aload_n C dX12_tally_108 rfl ?_
                    refine r_iload C dX12_tally_109 rfl ?_
                    obtain ⟨u37, e36, hf0⟩ := ob hf0
                    obtain ⟨t38, h39, e40, hf0⟩ := ob2 hf0
                    refine r_cV (ci := 12) (rest := []) (st2 := [.int t38]) C (s_X12_gives e40) mk_X12_gives rfl (ck_k e36) (by decide) im_X12_gives sl_X12_gives lk_X12_200 rfl rfl rfl dX12_tally_111 (Nat.le_of_ble_eq_true rfl) ⟨Nat.le_of_ble_eq_true rfl, Nat.le_of_ble_eq_true rfl⟩ ⟨Nat.le_of_ble_eq_true rfl, Nat.le_of_ble_eq_true rfl⟩ ?_
                    obtain rfl := so hf0
                    exact r_iret C dX12_tally_114
                  · rw [if_neg c35] at hf1
                    refine r_aload_n C dX12_tally_76 rfl ?_
                    refine r_iload_n C dX12_tally_77 rfl ?_
                    refine r_iload C dX12_tally_78 rfl ?_
                    refine r_iadd C dX12_tally_80 ?_
                    obtain ⟨u42, e41, hf1⟩ := ob hf1
                    obtain ⟨h43, e44, hf1⟩ := ob hf1
                    refine r_cV (ci := 12) (rest := []) (st2 := []) C (s_X12_sits e44) mk_X12_sits rfl (ck_k e41) (by decide) im_X12_sits sl_X12_sits lk_X12_507 rfl rfl rfl dX12_tally_81 (Nat.le_of_ble_eq_true rfl) ⟨Nat.le_of_ble_eq_true rfl, Nat.le_of_ble_eq_true rfl⟩ ⟨Nat.le_of_ble_eq_true rfl, Nat.le_of_ble_eq_true rfl⟩ ?_
                    refine r_iload C dX12_tally_84 rfl ?_
                    refine r_aload_n C dX12_tally_86 rfl ?_
                    obtain ⟨t45, e46, hf1⟩ := ob hf1
                    refine r_getI C fk_X12_480 rfl dX12_tally_87 e46 ?_
                    refine r_iload_n C dX12_tally_90 rfl ?_
                    refine r_icmp_ne (tgt := 98) C dX12_tally_91 (by decide) (fun c47 => ?_) (fun c47 => ?_)
                    · rw [if_neg c47] at hf1
                      refine r_iconst (v := 0) C dX12_tally_98 (by decide) ?_
                      refine r_subk [0, 1, 2, 3, 5] (lv' := [(0, .ref v0), (1, .int v1), (2, .int v2), (3, .int v3), (5, .int t25)]) rfl ?_
                      exact J99 h43 t25 t24 (0 : Int32) hf1
                    · rw [if_pos c47] at hf1
                      refine r_iconst (v := 1) C dX12_tally_94 (by decide) ?_
                      refine r_goto (tgt := 99) C dX12_tally_95 (by decide) ?_
                      refine r_subk [0, 1, 2, 3, 5] (lv' := [(0, .ref v0), (1, .int v1), (2, .int v2), (3, .int v3), (5, .int t25)]) rfl ?_
                      exact J99 h43 t25 t24 (1 : Int32) hf1
              refine r_subk [2, 3, 4, 5, 1, 0] (lv' := [(0, .ref v0), (1, .int v1), (2, .int v2), (3, .int v3), (4, .int (0 : Int32)), (5, .int (0 : Int32))]) rfl ?_
              exact L70 wN (0 : Int32) (0 : Int32) h hl70
            · rw [if_pos c21] at hf0
              refine r_aload_n C dX12_tally_57 rfl ?_
              refine r_bipush (v := 6) C dX12_tally_58 (by decide) ?_
              obtain ⟨u49, e48, hf0⟩ := ob hf0
              obtain ⟨t50, h51, e52, hf0⟩ := ob2 hf0
              refine r_cV (ci := 12) (rest := []) (st2 := [.int t50]) C (s_X12_refuse e52) mk_X12_refuse rfl (ck_k e48) (by decide) im_X12_refuse sl_X12_refuse lk_X12_197 rfl rfl rfl dX12_tally_60 (Nat.le_of_ble_eq_true rfl) ⟨Nat.le_of_ble_eq_true rfl, Nat.le_of_ble_eq_true rfl⟩ ⟨Nat.le_of_ble_eq_true rfl, Nat.le_of_ble_eq_true rfl⟩ ?_
              obtain rfl := so hf0
              exact r_iret C dX12_tally_63
          · rw [if_neg c16] at hf0
            refine r_subk [0] (lv' := [(0, .ref v0)]) rfl ?_
            exact J44 h v0 hf0
def f_X12_copies_b2 (v0 : Nat) (v1 : Int32) (v2 : Int32) (v3 : Int32) (h : aH) : Option ((Int32 × aH) ⊕ (aH)) := if (400 : Int32) ≤ v3 then some (.inr h) else (gR h 12 v0 0).bind fun t1 => (gR h 12 v0 0).bind fun t2 => (lI h t2 (((400 : Int32) * v1) + v3)).bind fun t3 => (sI h t1 (((400 : Int32) * v2) + v3) t3).bind fun h4 => (some (v3 + (1 : Int32))).bind fun t5 => some (.inl (t5, h4))
def f_X12_copies_l2 (v0 : Nat) (v1 : Int32) (v2 : Int32) (v3 : Int32) (h : aH) : Option (aH) := whileL wN (fun q : Int32 × aH => f_X12_copies_b2 v0 v1 v2 q.1 q.2) (v3, h)
def f_X12_copies_b41 (v0 : Nat) (v1 : Int32) (v2 : Int32) (v3 : Int32) (h : aH) : Option ((Int32 × aH) ⊕ (aH)) := if (52 : Int32) ≤ v3 then some (.inr h) else (gR h 12 v0 1).bind fun t7 => (gR h 12 v0 1).bind fun t8 => (lJ h t8 (((52 : Int32) * v1) + v3)).bind fun t9 => (sJ h t7 (((52 : Int32) * v2) + v3) t9).bind fun h10 => (some (v3 + (1 : Int32))).bind fun t11 => some (.inl (t11, h10))
def f_X12_copies_l41 (v0 : Nat) (v1 : Int32) (v2 : Int32) (v3 : Int32) (h : aH) : Option (aH) := whileL wN (fun q : Int32 × aH => f_X12_copies_b41 v0 v1 v2 q.1 q.2) (v3, h)
def f_X12_copies_b77 (v0 : Nat) (v1 : Int32) (v2 : Int32) (v3 : Int32) (h : aH) : Option ((Int32 × aH) ⊕ (aH)) := if (44 : Int32) ≤ v3 then some (.inr h) else (gR h 12 v0 2).bind fun t13 => (gR h 12 v0 2).bind fun t14 => (lJ h t14 (((44 : Int32) * v1) + v3)).bind fun t15 => (sJ h t13 (((44 : Int32) * v2) + v3) t15).bind fun h16 => (some (v3 + (1 : Int32))).bind fun t17 => some (.inl (t17, h16))
def f_X12_copies_l77 (v0 : Nat) (v1 : Int32) (v2 : Int32) (v3 : Int32) (h : aH) : Option (aH) := whileL wN (fun q : Int32 × aH => f_X12_copies_b77 v0 v1 v2 q.1 q.2) (v3, h)
def f_X12_copies (h : aH) (v0 : Nat) (v1 : Int32) (v2 : Int32) : Option (aH) := (f_X12_copies_l2 v0 v1 v2 (0 : Int32) h).bind fun h6 => (f_X12_copies_l41 v0 v1 v2 (0 : Int32) h6).bind fun h12 => (f_X12_copies_l77 v0 v1 v2 (0 : Int32) h12).bind fun h18 => some h18
theorem s_X12_copies {h : aH} {v0 : Nat} {v1 : Int32} {v2 : Int32} {out : aH} (hf0 : f_X12_copies h v0 v1 v2 = some out) : EV 0 yX12_copies cX12_copies 4 none h [.ref v0, .int v1, .int v2] none out 0 0 := by
  refine EV.of (own := RX12) (lv0 := [(0, .ref v0), (1, .int v1), (2, .int v2)]) (by decide +kernel) rfl rfl (Nat.le_of_ble_eq_true rfl) ?_
  intro p l e s m args below meth c D cA B Hb C hin
  unfold f_X12_copies at hf0
  refine r_iconst (v := 0) C dX12_copies_0 (by decide) ?_
  refine r_istore_n (lv' := [(3, .int (0 : Int32)), (0, .ref v0), (1, .int v1), (2, .int v2)]) C dX12_copies_1 (by decide) rfl rfl ?_
  obtain ⟨y1, hl2, hf0⟩ := ob hf0
  have L2 : ∀ (n : Nat) (t2 : Int32) (h3 : aH), whileL n (fun q : Int32 × aH => f_X12_copies_b2 v0 v1 v2 q.1 q.2) (t2, h3) = some y1 → gW p l e (rmO 0 0 0) s m args below meth c (MQ below (eQ D cA B Hb out none) args s 0 0 (fun q => B ≤ q)) D cA B Hb 4 h3 2 [(0, .ref v0), (1, .int v1), (2, .int v2), (3, .int t2)] [] 0 0 := by
    intro n
    induction n with
    | zero => intro t2 h3 hz; cases hz
    | succ n ih2 =>
      intro t2 h3 hz
      obtain ⟨x2, hf1, hk2⟩ := wl hz
      replace hf1 : f_X12_copies_b2 v0 v1 v2 t2 h3 = some x2 := hf1
      unfold f_X12_copies_b2 at hf1
      refine r_iload_n C dX12_copies_2 rfl ?_
      refine r_sipush (v := 400) C dX12_copies_3 (by decide) ?_
      refine r_icmp_ge (tgt := 39) C dX12_copies_6 (by decide) (fun c4 => ?_) (fun c4 => ?_)
      · rw [if_pos c4] at hf1
        obtain rfl := so hf1
        obtain rfl := so (show some h3 = some y1 from hk2)
        refine r_iconst (v := 0) C dX12_copies_39 (by decide) ?_
        refine r_istore_n (lv' := [(3, .int (0 : Int32)), (0, .ref v0), (1, .int v1), (2, .int v2)]) C dX12_copies_40 (by decide) rfl rfl ?_
        obtain ⟨y5, hl41, hf0⟩ := ob hf0
        have L41 : ∀ (n : Nat) (t6 : Int32) (h7 : aH), whileL n (fun q : Int32 × aH => f_X12_copies_b41 v0 v1 v2 q.1 q.2) (t6, h7) = some y5 → gW p l e (rmO 0 0 0) s m args below meth c (MQ below (eQ D cA B Hb out none) args s 0 0 (fun q => B ≤ q)) D cA B Hb 4 h7 41 [(0, .ref v0), (1, .int v1), (2, .int v2), (3, .int t6)] [] 0 0 := by
          intro n
          induction n with
          | zero => intro t6 h7 hz; cases hz
          | succ n ih41 =>
            intro t6 h7 hz
            obtain ⟨x41, hf1, hk41⟩ := wl hz
            replace hf1 : f_X12_copies_b41 v0 v1 v2 t6 h7 = some x41 := hf1
            unfold f_X12_copies_b41 at hf1
            refine r_iload_n C dX12_copies_41 rfl ?_
            refine r_bipush (v := 52) C dX12_copies_42 (by decide) ?_
            refine r_icmp_ge (tgt := 75) C dX12_copies_44 (by decide) (fun c8 => ?_) (fun c8 => ?_)
            · rw [if_pos c8] at hf1
              obtain rfl := so hf1
              obtain rfl := so (show some h7 = some y5 from hk41)
              refine r_iconst (v := 0) C dX12_copies_75 (by decide) ?_
              refine r_istore_n (lv' := [(3, .int (0 : Int32)), (0, .ref v0), (1, .int v1), (2, .int v2)]) C dX12_copies_76 (by decide) rfl rfl ?_
              obtain ⟨y9, hl77, hf0⟩ := ob hf0
              have L77 : ∀ (n : Nat) (t10 : Int32) (h11 : aH), whileL n (fun q : Int32 × aH => f_X12_copies_b77 v0 v1 v2 q.1 q.2) (t10, h11) = some y9 → gW p l e (rmO 0 0 0) s m args below meth c (MQ below (eQ D cA B Hb out none) args s 0 0 (fun q => B ≤ q)) D cA B Hb 4 h11 77 [(0, .ref v0), (1, .int v1), (2, .int v2), (3, .int t10)] [] 0 0 := by
                intro n
                induction n with
                | zero => intro t10 h11 hz; cases hz
                | succ n ih77 =>
                  intro t10 h11 hz
                  obtain ⟨x77, hf1, hk77⟩ := wl hz
                  replace hf1 : f_X12_copies_b77 v0 v1 v2 t10 h11 = some x77 := hf1
                  unfold f_X12_copies_b77 at hf1
                  refine r_iload_n C dX12_copies_77 rfl ?_
                  refine r_bipush (v := 44) C dX12_copies_78 (by decide) ?_
                  refine r_icmp_ge (tgt := 111) C dX12_copies_80 (by decide) (fun c12 => ?_) (fun c12 => ?_)
                  · rw [if_pos c12] at hf1
                    obtain rfl := so hf1
                    obtain rfl := so (show some h11 = some y9 from hk77)
                    obtain rfl := so hf0
                    exact r_vret C dX12_copies_111
                  · rw [if_neg c12] at hf1
                    refine r_aload_n C dX12_copies_83 rfl ?_
                    obtain ⟨t13, e14, hf1⟩ := ob hf1
                    refine r_getR C fk_X12_17 rfl dX12_copies_84 e14 ?_
                    refine r_bipush (v := 44) C dX12_copies_87 (by decide) ?_
                    refine r_iload_n C dX12_copies_89 rfl ?_
                    refine r_imul C dX12_copies_90 ?_
                    refine r_iload_n C dX12_copies_91 rfl ?_
                    refine r_iadd C dX12_copies_92 ?_
                    refine r_aload_n C dX12_copies_93 rfl ?_
                    obtain ⟨t15, e16, hf1⟩ := ob hf1
                    refine r_getR C fk_X12_17 rfl dX12_copies_94 e16 ?_
                    refine r_bipush (v := 44) C dX12_copies_97 (by decide) ?_
                    refine r_iload_n C dX12_copies_99 rfl ?_
                    refine r_imul C dX12_copies_100 ?_
                    refine r_iload_n C dX12_copies_101 rfl ?_
                    refine r_iadd C dX12_copies_102 ?_
                    obtain ⟨t17, e18, hf1⟩ := ob hf1
                    refine r_ldJ C dX12_copies_103 e18 ?_
                    obtain ⟨h19, e20, hf1⟩ := ob hf1
                    refine r_stJ C dX12_copies_104 e20 ?_
                    obtain ⟨t21, e22, hf1⟩ := ob hf1
                    refine r_iinc (lv' := [(3, .int t21), (0, .ref v0), (1, .int v1), (2, .int v2)]) C dX12_copies_105 rfl e22 (by decide) rfl ?_
                    refine r_goto (tgt := 77) C dX12_copies_108 (by decide) ?_
                    obtain rfl := so hf1
                    refine r_subk [1, 2, 3, 0] (lv' := [(0, .ref v0), (1, .int v1), (2, .int v2), (3, .int t21)]) rfl ?_
                    exact ih77 t21 h19 hk77
              refine r_subk [1, 2, 3, 0] (lv' := [(0, .ref v0), (1, .int v1), (2, .int v2), (3, .int (0 : Int32))]) rfl ?_
              exact L77 wN (0 : Int32) h7 hl77
            · rw [if_neg c8] at hf1
              refine r_aload_n C dX12_copies_47 rfl ?_
              obtain ⟨t23, e24, hf1⟩ := ob hf1
              refine r_getR C fk_X12_13 rfl dX12_copies_48 e24 ?_
              refine r_bipush (v := 52) C dX12_copies_51 (by decide) ?_
              refine r_iload_n C dX12_copies_53 rfl ?_
              refine r_imul C dX12_copies_54 ?_
              refine r_iload_n C dX12_copies_55 rfl ?_
              refine r_iadd C dX12_copies_56 ?_
              refine r_aload_n C dX12_copies_57 rfl ?_
              obtain ⟨t25, e26, hf1⟩ := ob hf1
              refine r_getR C fk_X12_13 rfl dX12_copies_58 e26 ?_
              refine r_bipush (v := 52) C dX12_copies_61 (by decide) ?_
              refine r_iload_n C dX12_copies_63 rfl ?_
              refine r_imul C dX12_copies_64 ?_
              refine r_iload_n C dX12_copies_65 rfl ?_
              refine r_iadd C dX12_copies_66 ?_
              obtain ⟨t27, e28, hf1⟩ := ob hf1
              refine r_ldJ C dX12_copies_67 e28 ?_
              obtain ⟨h29, e30, hf1⟩ := ob hf1
              refine r_stJ C dX12_copies_68 e30 ?_
              obtain ⟨t31, e32, hf1⟩ := ob hf1
              refine r_iinc (lv' := [(3, .int t31), (0, .ref v0), (1, .int v1), (2, .int v2)]) C dX12_copies_69 rfl e32 (by decide) rfl ?_
              refine r_goto (tgt := 41) C dX12_copies_72 (by decide) ?_
              obtain rfl := so hf1
              refine r_subk [1, 2, 3, 0] (lv' := [(0, .ref v0), (1, .int v1), (2, .int v2), (3, .int t31)]) rfl ?_
              exact ih41 t31 h29 hk41
        refine r_subk [1, 2, 3, 0] (lv' := [(0, .ref v0), (1, .int v1), (2, .int v2), (3, .int (0 : Int32))]) rfl ?_
        exact L41 wN (0 : Int32) h3 hl41
      · rw [if_neg c4] at hf1
        refine r_aload_n C dX12_copies_9 rfl ?_
        obtain ⟨t33, e34, hf1⟩ := ob hf1
        refine r_getR C fk_X12_7 rfl dX12_copies_10 e34 ?_
        refine r_sipush (v := 400) C dX12_copies_13 (by decide) ?_
        refine r_iload_n C dX12_copies_16 rfl ?_
        refine r_imul C dX12_copies_17 ?_
        refine r_iload_n C dX12_copies_18 rfl ?_
        refine r_iadd C dX12_copies_19 ?_
        refine r_aload_n C dX12_copies_20 rfl ?_
        obtain ⟨t35, e36, hf1⟩ := ob hf1
        refine r_getR C fk_X12_7 rfl dX12_copies_21 e36 ?_
        refine r_sipush (v := 400) C dX12_copies_24 (by decide) ?_
        refine r_iload_n C dX12_copies_27 rfl ?_
        refine r_imul C dX12_copies_28 ?_
        refine r_iload_n C dX12_copies_29 rfl ?_
        refine r_iadd C dX12_copies_30 ?_
        obtain ⟨t37, e38, hf1⟩ := ob hf1
        refine r_ldI C dX12_copies_31 e38 ?_
        obtain ⟨h39, e40, hf1⟩ := ob hf1
        refine r_stI C dX12_copies_32 e40 ?_
        obtain ⟨t41, e42, hf1⟩ := ob hf1
        refine r_iinc (lv' := [(3, .int t41), (0, .ref v0), (1, .int v1), (2, .int v2)]) C dX12_copies_33 rfl e42 (by decide) rfl ?_
        refine r_goto (tgt := 2) C dX12_copies_36 (by decide) ?_
        obtain rfl := so hf1
        refine r_subk [1, 2, 3, 0] (lv' := [(0, .ref v0), (1, .int v1), (2, .int v2), (3, .int t41)]) rfl ?_
        exact ih2 t41 h39 hk2
  refine r_subk [1, 2, 3, 0] (lv' := [(0, .ref v0), (1, .int v1), (2, .int v2), (3, .int (0 : Int32))]) rfl ?_
  exact L2 wN (0 : Int32) h hl2
def f_X12_mark (h : aH) (v0 : Nat) : Option (Int32 × aH) := (gI h 12 v0 47).bind fun t1 => if t1 = (3 : Int32) then (ck h 12 v0).bind fun _ => bd2 (f_X12_refuse h v0 (4 : Int32)) fun t9 h10 => some (t9, h10) else (gI h 12 v0 47).bind fun t2 => (pI h 12 v0 47 (t2 + (1 : Int32))).bind fun h3 => (gI h3 12 v0 47).bind fun t4 => (ck h3 12 v0).bind fun _ => (f_X12_copies h3 v0 (0 : Int32) t4).bind fun h5 => (gI h5 12 v0 47).bind fun t6 => (ck h5 12 v0).bind fun _ => bd2 (f_X12_gives h5 v0 t6) fun t7 h8 => some (t7, h8)
theorem s_X12_mark {h : aH} {v0 : Nat} {out : Int32 × aH} (hf0 : f_X12_mark h v0 = some out) : EV 1 yX12_mark cX12_mark 1 (some .int) h [.ref v0] (some (.int out.1)) out.2 0 0 := by
  refine EV.of (own := RX12) (lv0 := [(0, .ref v0)]) (by decide +kernel) rfl rfl (Nat.le_of_ble_eq_true rfl) ?_
  intro p l e s m args below meth c D cA B Hb C hin
  unfold f_X12_mark at hf0
  refine r_aload_n C dX12_mark_0 rfl ?_
  obtain ⟨t1, e2, hf0⟩ := ob hf0
  refine r_getI C fk_X12_516 rfl dX12_mark_1 e2 ?_
  refine r_iconst (v := 3) C dX12_mark_4 (by decide) ?_
  refine r_icmp_ne (tgt := 14) C dX12_mark_5 (by decide) (fun c3 => ?_) (fun c3 => ?_)
  · rw [if_neg c3] at hf0
    refine r_aload_n C dX12_mark_14 rfl ?_
    refine r_dup C dX12_mark_15 rfl ?_
    obtain ⟨t4, e5, hf0⟩ := ob hf0
    refine r_getI C fk_X12_516 rfl dX12_mark_16 e5 ?_
    refine r_iconst (v := 1) C dX12_mark_19 (by decide) ?_
    refine r_iadd C dX12_mark_20 ?_
    obtain ⟨h6, e7, hf0⟩ := ob hf0
    refine r_putI C fk_X12_516 dX12_mark_21 e7 ?_
    refine r_aload_n C dX12_mark_24 rfl ?_
    refine r_iconst (v := 0) C dX12_mark_25 (by decide) ?_
    refine r_aload_n C dX12_mark_26 rfl ?_
    obtain ⟨t8, e9, hf0⟩ := ob hf0
    refine r_getI C fk_X12_516 rfl dX12_mark_27 e9 ?_
    obtain ⟨u11, e10, hf0⟩ := ob hf0
    obtain ⟨h12, e13, hf0⟩ := ob hf0
    refine r_cV (ci := 12) (rest := []) (st2 := []) C (s_X12_copies e13) mk_X12_copies rfl (ck_k e10) (by decide) im_X12_copies sl_X12_copies lk_X12_519 rfl rfl rfl dX12_mark_30 (Nat.le_of_ble_eq_true rfl) ⟨Nat.le_of_ble_eq_true rfl, Nat.le_of_ble_eq_true rfl⟩ ⟨Nat.le_of_ble_eq_true rfl, Nat.le_of_ble_eq_true rfl⟩ ?_
    refine r_aload_n C dX12_mark_33 rfl ?_
    refine r_aload_n C dX12_mark_34 rfl ?_
    obtain ⟨t14, e15, hf0⟩ := ob hf0
    refine r_getI C fk_X12_516 rfl dX12_mark_35 e15 ?_
    obtain ⟨u17, e16, hf0⟩ := ob hf0
    obtain ⟨t18, h19, e20, hf0⟩ := ob2 hf0
    refine r_cV (ci := 12) (rest := []) (st2 := [.int t18]) C (s_X12_gives e20) mk_X12_gives rfl (ck_k e16) (by decide) im_X12_gives sl_X12_gives lk_X12_200 rfl rfl rfl dX12_mark_38 (Nat.le_of_ble_eq_true rfl) ⟨Nat.le_of_ble_eq_true rfl, Nat.le_of_ble_eq_true rfl⟩ ⟨Nat.le_of_ble_eq_true rfl, Nat.le_of_ble_eq_true rfl⟩ ?_
    obtain rfl := so hf0
    exact r_iret C dX12_mark_41
  · rw [if_pos c3] at hf0
    refine r_aload_n C dX12_mark_8 rfl ?_
    refine r_iconst (v := 4) C dX12_mark_9 (by decide) ?_
    obtain ⟨u22, e21, hf0⟩ := ob hf0
    obtain ⟨t23, h24, e25, hf0⟩ := ob2 hf0
    refine r_cV (ci := 12) (rest := []) (st2 := [.int t23]) C (s_X12_refuse e25) mk_X12_refuse rfl (ck_k e21) (by decide) im_X12_refuse sl_X12_refuse lk_X12_197 rfl rfl rfl dX12_mark_10 (Nat.le_of_ble_eq_true rfl) ⟨Nat.le_of_ble_eq_true rfl, Nat.le_of_ble_eq_true rfl⟩ ⟨Nat.le_of_ble_eq_true rfl, Nat.le_of_ble_eq_true rfl⟩ ?_
    obtain rfl := so hf0
    exact r_iret C dX12_mark_13
def f_X12_back (h : aH) (v0 : Nat) : Option (Int32 × aH) := (gI h 12 v0 47).bind fun t1 => if t1 = 0 then (ck h 12 v0).bind fun _ => bd2 (f_X12_refuse h v0 (6 : Int32)) fun t10 h11 => some (t10, h11) else (gI h 12 v0 47).bind fun t2 => (ck h 12 v0).bind fun _ => (f_X12_copies h v0 t2 (0 : Int32)).bind fun h3 => (gI h3 12 v0 47).bind fun t4 => (pI h3 12 v0 47 (t4 - (1 : Int32))).bind fun h5 => (ck h5 12 v0).bind fun _ => (f_X12_laysAnswers h5 v0).bind fun h6 => (gI h6 12 v0 47).bind fun t7 => (ck h6 12 v0).bind fun _ => bd2 (f_X12_gives h6 v0 t7) fun t8 h9 => some (t8, h9)
theorem s_X12_back {h : aH} {v0 : Nat} {out : Int32 × aH} (hf0 : f_X12_back h v0 = some out) : EV 4 yX12_back cX12_back 1 (some .int) h [.ref v0] (some (.int out.1)) out.2 0 0 := by
  refine EV.of (own := RX12) (lv0 := [(0, .ref v0)]) (by decide +kernel) rfl rfl (Nat.le_of_ble_eq_true rfl) ?_
  intro p l e s m args below meth c D cA B Hb C hin
  unfold f_X12_back at hf0
  refine r_aload_n C dX12_back_0 rfl ?_
  obtain ⟨t1, e2, hf0⟩ := ob hf0
  refine r_getI C fk_X12_516 rfl dX12_back_1 e2 ?_
  refine r_ifne (tgt := 14) C dX12_back_4 (by decide) (fun c3 => ?_) (fun c3 => ?_)
  · rw [if_neg c3] at hf0
    refine r_aload_n C dX12_back_14 rfl ?_
    refine r_aload_n C dX12_back_15 rfl ?_
    obtain ⟨t4, e5, hf0⟩ := ob hf0
    refine r_getI C fk_X12_516 rfl dX12_back_16 e5 ?_
    refine r_iconst (v := 0) C dX12_back_19 (by decide) ?_
    obtain ⟨u7, e6, hf0⟩ := ob hf0
    obtain ⟨h8, e9, hf0⟩ := ob hf0
    refine r_cV (ci := 12) (rest := []) (st2 := []) C (s_X12_copies e9) mk_X12_copies rfl (ck_k e6) (by decide) im_X12_copies sl_X12_copies lk_X12_519 rfl rfl rfl dX12_back_20 (Nat.le_of_ble_eq_true rfl) ⟨Nat.le_of_ble_eq_true rfl, Nat.le_of_ble_eq_true rfl⟩ ⟨Nat.le_of_ble_eq_true rfl, Nat.le_of_ble_eq_true rfl⟩ ?_
    refine r_aload_n C dX12_back_23 rfl ?_
    refine r_dup C dX12_back_24 rfl ?_
    obtain ⟨t10, e11, hf0⟩ := ob hf0
    refine r_getI C fk_X12_516 rfl dX12_back_25 e11 ?_
    refine r_iconst (v := 1) C dX12_back_28 (by decide) ?_
    refine r_isub C dX12_back_29 ?_
    obtain ⟨h12, e13, hf0⟩ := ob hf0
    refine r_putI C fk_X12_516 dX12_back_30 e13 ?_
    refine r_aload_n C dX12_back_33 rfl ?_
    obtain ⟨u15, e14, hf0⟩ := ob hf0
    obtain ⟨h16, e17, hf0⟩ := ob hf0
    refine r_cV (ci := 12) (rest := []) (st2 := []) C (s_X12_laysAnswers e17) mk_X12_laysAnswers rfl (ck_k e14) (by decide) im_X12_laysAnswers sl_X12_laysAnswers lk_X12_100 rfl rfl rfl dX12_back_34 (Nat.le_of_ble_eq_true rfl) ⟨Nat.le_of_ble_eq_true rfl, Nat.le_of_ble_eq_true rfl⟩ ⟨Nat.le_of_ble_eq_true rfl, Nat.le_of_ble_eq_true rfl⟩ ?_
    refine r_aload_n C dX12_back_37 rfl ?_
    refine r_aload_n C dX12_back_38 rfl ?_
    obtain ⟨t18, e19, hf0⟩ := ob hf0
    refine r_getI C fk_X12_516 rfl dX12_back_39 e19 ?_
    obtain ⟨u21, e20, hf0⟩ := ob hf0
    obtain ⟨t22, h23, e24, hf0⟩ := ob2 hf0
    refine r_cV (ci := 12) (rest := []) (st2 := [.int t22]) C (s_X12_gives e24) mk_X12_gives rfl (ck_k e20) (by decide) im_X12_gives sl_X12_gives lk_X12_200 rfl rfl rfl dX12_back_42 (Nat.le_of_ble_eq_true rfl) ⟨Nat.le_of_ble_eq_true rfl, Nat.le_of_ble_eq_true rfl⟩ ⟨Nat.le_of_ble_eq_true rfl, Nat.le_of_ble_eq_true rfl⟩ ?_
    obtain rfl := so hf0
    exact r_iret C dX12_back_45
  · rw [if_pos c3] at hf0
    refine r_aload_n C dX12_back_7 rfl ?_
    refine r_bipush (v := 6) C dX12_back_8 (by decide) ?_
    obtain ⟨u26, e25, hf0⟩ := ob hf0
    obtain ⟨t27, h28, e29, hf0⟩ := ob2 hf0
    refine r_cV (ci := 12) (rest := []) (st2 := [.int t27]) C (s_X12_refuse e29) mk_X12_refuse rfl (ck_k e25) (by decide) im_X12_refuse sl_X12_refuse lk_X12_197 rfl rfl rfl dX12_back_10 (Nat.le_of_ble_eq_true rfl) ⟨Nat.le_of_ble_eq_true rfl, Nat.le_of_ble_eq_true rfl⟩ ⟨Nat.le_of_ble_eq_true rfl, Nat.le_of_ble_eq_true rfl⟩ ?_
    obtain rfl := so hf0
    exact r_iret C dX12_back_13
