def f_X12_possible_j22 (h : aH) (s0 : Nat) (s1 : Int32) : Option (Int32 × aH) := (ck h 12 s0).bind fun _ => bd2 (f_X12_gives h s0 s1) fun t1 h2 => some (t1, h2)
def f_X12_possible (h : aH) (v0 : Nat) (v1 : Int32) : Option (Int32 × aH) := (ck h 12 v0).bind fun _ => (f_X12_isWorld h v0 v1).bind fun t3 => if t3 = 0 then (ck h 12 v0).bind fun _ => bd2 (f_X12_refuse h v0 (1 : Int32)) fun t4 h5 => some (t4, h5) else (ck h 12 v0).bind fun _ => (f_X12_isPossible h v0 v1).bind fun t6 => if t6 = 0 then f_X12_possible_j22 h v0 (0 : Int32) else f_X12_possible_j22 h v0 (1 : Int32)
theorem s_X12_possible {h : aH} {v0 : Nat} {v1 : Int32} {out : Int32 × aH} (hf0 : f_X12_possible h v0 v1 = some out) : EV 2 yX12_possible cX12_possible 2 (some .int) h [.ref v0, .int v1] (some (.int out.1)) out.2 0 0 := by
  refine EV.of (own := RX12) (lv0 := [(0, .ref v0), (1, .int v1)]) (by decide +kernel) rfl rfl (Nat.le_of_ble_eq_true rfl) ?_
  intro p l e s m args below meth c D cA B Hb C hin
  unfold f_X12_possible at hf0
  have J22 : ∀ (h1 : aH) (t2 : Nat) (t3 : Int32), f_X12_possible_j22 h1 t2 t3 = some out → gW p l e (rmO 2 0 0) s m args below meth c (MQ below (eQ D cA B Hb out.2 (some (.int out.1))) args s 0 0 (fun q => B ≤ q)) D cA B Hb 2 h1 22 [] [.int t3, .ref t2] 0 0 := by
    intro h1 t2 t3 hf0
    unfold f_X12_possible_j22 at hf0
    obtain ⟨u5, e4, hf0⟩ := ob hf0
    obtain ⟨t6, h7, e8, hf0⟩ := ob2 hf0
    refine r_cV (ci := 12) (rest := []) (st2 := [.int t6]) C (s_X12_gives e8) mk_X12_gives rfl (ck_k e4) (by decide) im_X12_gives sl_X12_gives lk_X12_200 rfl rfl rfl dX12_possible_22 (Nat.le_of_ble_eq_true rfl) ⟨Nat.le_of_ble_eq_true rfl, Nat.le_of_ble_eq_true rfl⟩ ⟨Nat.le_of_ble_eq_true rfl, Nat.le_of_ble_eq_true rfl⟩ ?_
    refine r_goto (tgt := 33) C dX12_possible_25 (by decide) ?_
    obtain rfl := so hf0
    exact r_iret C dX12_possible_33
  refine r_aload_n C dX12_possible_0 rfl ?_
  refine r_iload_n C dX12_possible_1 rfl ?_
  obtain ⟨u10, e9, hf0⟩ := ob hf0
  obtain ⟨t11, e12, hf0⟩ := ob hf0
  refine r_cV (ci := 12) (rest := []) (st2 := [.int t11]) C (s_X12_isWorld e12) mk_X12_isWorld rfl (ck_k e9) (by decide) im_X12_isWorld sl_X12_isWorld lk_X12_328 rfl rfl rfl dX12_possible_2 (Nat.le_of_ble_eq_true rfl) ⟨Nat.le_of_ble_eq_true rfl, Nat.le_of_ble_eq_true rfl⟩ ⟨Nat.le_of_ble_eq_true rfl, Nat.le_of_ble_eq_true rfl⟩ ?_
  refine r_ifeq (tgt := 28) C dX12_possible_5 (by decide) (fun c13 => ?_) (fun c13 => ?_)
  · rw [if_pos c13] at hf0
    refine r_aload_n C dX12_possible_28 rfl ?_
    refine r_iconst (v := 1) C dX12_possible_29 (by decide) ?_
    obtain ⟨u15, e14, hf0⟩ := ob hf0
    obtain ⟨t16, h17, e18, hf0⟩ := ob2 hf0
    refine r_cV (ci := 12) (rest := []) (st2 := [.int t16]) C (s_X12_refuse e18) mk_X12_refuse rfl (ck_k e14) (by decide) im_X12_refuse sl_X12_refuse lk_X12_197 rfl rfl rfl dX12_possible_30 (Nat.le_of_ble_eq_true rfl) ⟨Nat.le_of_ble_eq_true rfl, Nat.le_of_ble_eq_true rfl⟩ ⟨Nat.le_of_ble_eq_true rfl, Nat.le_of_ble_eq_true rfl⟩ ?_
    obtain rfl := so hf0
    exact r_iret C dX12_possible_33
  · rw [if_neg c13] at hf0
    refine r_aload_n C dX12_possible_8 rfl ?_
    refine r_aload_n C dX12_possible_9 rfl ?_
    refine r_iload_n C dX12_possible_10 rfl ?_
    obtain ⟨u20, e19, hf0⟩ := ob hf0
    obtain ⟨t21, e22, hf0⟩ := ob hf0
    refine r_cV (ci := 12) (rest := [.ref v0]) (st2 := [.int t21, .ref v0]) C (s_X12_isPossible e22) mk_X12_isPossible rfl (ck_k e19) (by decide) im_X12_isPossible sl_X12_isPossible lk_X12_331 rfl rfl rfl dX12_possible_11 (Nat.le_of_ble_eq_true rfl) ⟨Nat.le_of_ble_eq_true rfl, Nat.le_of_ble_eq_true rfl⟩ ⟨Nat.le_of_ble_eq_true rfl, Nat.le_of_ble_eq_true rfl⟩ ?_
    refine r_ifeq (tgt := 21) C dX12_possible_14 (by decide) (fun c23 => ?_) (fun c23 => ?_)
    · rw [if_pos c23] at hf0
      refine r_iconst (v := 0) C dX12_possible_21 (by decide) ?_
      refine r_subk [] (lv' := []) rfl ?_
      exact J22 h v0 (0 : Int32) hf0
    · rw [if_neg c23] at hf0
      refine r_iconst (v := 1) C dX12_possible_17 (by decide) ?_
      refine r_goto (tgt := 22) C dX12_possible_18 (by decide) ?_
      refine r_subk [] (lv' := []) rfl ?_
      exact J22 h v0 (1 : Int32) hf0
def f_X12_holds_j37 (h : aH) (v0 : Nat) : Option (Int32 × aH) := (ck h 12 v0).bind fun _ => bd2 (f_X12_refuse h v0 (1 : Int32)) fun t1 h2 => some (t1, h2)
def f_X12_holds_j31 (h : aH) (s0 : Nat) (s1 : Int32) : Option (Int32 × aH) := (ck h 12 s0).bind fun _ => bd2 (f_X12_gives h s0 s1) fun t3 h4 => some (t3, h4)
def f_X12_holds (h : aH) (v0 : Nat) (v1 : Int32) (v2 : Int32) : Option (Int32 × aH) := (ck h 12 v0).bind fun _ => (f_X12_isQuestion h v0 v1).bind fun t5 => if t5 = 0 then f_X12_holds_j37 h v0 else (ck h 12 v0).bind fun _ => (f_X12_isWorld h v0 v2).bind fun t6 => if t6 = 0 then f_X12_holds_j37 h v0 else (ck h 12 v0).bind fun _ => (f_X12_isIn h v0 v1 v2).bind fun t7 => if t7 = 0 then f_X12_holds_j31 h v0 (0 : Int32) else f_X12_holds_j31 h v0 (1 : Int32)
theorem s_X12_holds {h : aH} {v0 : Nat} {v1 : Int32} {v2 : Int32} {out : Int32 × aH} (hf0 : f_X12_holds h v0 v1 v2 = some out) : EV 2 yX12_holds cX12_holds 3 (some .int) h [.ref v0, .int v1, .int v2] (some (.int out.1)) out.2 0 0 := by
  refine EV.of (own := RX12) (lv0 := [(0, .ref v0), (1, .int v1), (2, .int v2)]) (by decide +kernel) rfl rfl (Nat.le_of_ble_eq_true rfl) ?_
  intro p l e s m args below meth c D cA B Hb C hin
  unfold f_X12_holds at hf0
  have J37 : ∀ (h1 : aH) (t2 : Nat), f_X12_holds_j37 h1 t2 = some out → gW p l e (rmO 2 0 0) s m args below meth c (MQ below (eQ D cA B Hb out.2 (some (.int out.1))) args s 0 0 (fun q => B ≤ q)) D cA B Hb 3 h1 37 [(0, .ref t2)] [] 0 0 := by
    intro h1 t2 hf0
    unfold f_X12_holds_j37 at hf0
    refine r_aload_n C dX12_holds_37 rfl ?_
    refine r_iconst (v := 1) C dX12_holds_38 (by decide) ?_
    obtain ⟨u4, e3, hf0⟩ := ob hf0
    obtain ⟨t5, h6, e7, hf0⟩ := ob2 hf0
    refine r_cV (ci := 12) (rest := []) (st2 := [.int t5]) C (s_X12_refuse e7) mk_X12_refuse rfl (ck_k e3) (by decide) im_X12_refuse sl_X12_refuse lk_X12_197 rfl rfl rfl dX12_holds_39 (Nat.le_of_ble_eq_true rfl) ⟨Nat.le_of_ble_eq_true rfl, Nat.le_of_ble_eq_true rfl⟩ ⟨Nat.le_of_ble_eq_true rfl, Nat.le_of_ble_eq_true rfl⟩ ?_
    obtain rfl := so hf0
    exact r_iret C dX12_holds_42
  have J31 : ∀ (h8 : aH) (t9 : Nat) (t10 : Int32), f_X12_holds_j31 h8 t9 t10 = some out → gW p l e (rmO 2 0 0) s m args below meth c (MQ below (eQ D cA B Hb out.2 (some (.int out.1))) args s 0 0 (fun q => B ≤ q)) D cA B Hb 3 h8 31 [] [.int t10, .ref t9] 0 0 := by
    intro h8 t9 t10 hf0
    unfold f_X12_holds_j31 at hf0
    obtain ⟨u12, e11, hf0⟩ := ob hf0
    obtain ⟨t13, h14, e15, hf0⟩ := ob2 hf0
    refine r_cV (ci := 12) (rest := []) (st2 := [.int t13]) C (s_X12_gives e15) mk_X12_gives rfl (ck_k e11) (by decide) im_X12_gives sl_X12_gives lk_X12_200 rfl rfl rfl dX12_holds_31 (Nat.le_of_ble_eq_true rfl) ⟨Nat.le_of_ble_eq_true rfl, Nat.le_of_ble_eq_true rfl⟩ ⟨Nat.le_of_ble_eq_true rfl, Nat.le_of_ble_eq_true rfl⟩ ?_
    refine r_goto (tgt := 42) C dX12_holds_34 (by decide) ?_
    obtain rfl := so hf0
    exact r_iret C dX12_holds_42
  refine r_aload_n C dX12_holds_0 rfl ?_
  refine r_iload_n C dX12_holds_1 rfl ?_
  obtain ⟨u17, e16, hf0⟩ := ob hf0
  obtain ⟨t18, e19, hf0⟩ := ob hf0
  refine r_cV (ci := 12) (rest := []) (st2 := [.int t18]) C (s_X12_isQuestion e19) mk_X12_isQuestion rfl (ck_k e16) (by decide) im_X12_isQuestion sl_X12_isQuestion lk_X12_334 rfl rfl rfl dX12_holds_2 (Nat.le_of_ble_eq_true rfl) ⟨Nat.le_of_ble_eq_true rfl, Nat.le_of_ble_eq_true rfl⟩ ⟨Nat.le_of_ble_eq_true rfl, Nat.le_of_ble_eq_true rfl⟩ ?_
  refine r_ifeq (tgt := 37) C dX12_holds_5 (by decide) (fun c20 => ?_) (fun c20 => ?_)
  · rw [if_pos c20] at hf0
    refine r_subk [0] (lv' := [(0, .ref v0)]) rfl ?_
    exact J37 h v0 hf0
  · rw [if_neg c20] at hf0
    refine r_aload_n C dX12_holds_8 rfl ?_
    refine r_iload_n C dX12_holds_9 rfl ?_
    obtain ⟨u22, e21, hf0⟩ := ob hf0
    obtain ⟨t23, e24, hf0⟩ := ob hf0
    refine r_cV (ci := 12) (rest := []) (st2 := [.int t23]) C (s_X12_isWorld e24) mk_X12_isWorld rfl (ck_k e21) (by decide) im_X12_isWorld sl_X12_isWorld lk_X12_328 rfl rfl rfl dX12_holds_10 (Nat.le_of_ble_eq_true rfl) ⟨Nat.le_of_ble_eq_true rfl, Nat.le_of_ble_eq_true rfl⟩ ⟨Nat.le_of_ble_eq_true rfl, Nat.le_of_ble_eq_true rfl⟩ ?_
    refine r_ifeq (tgt := 37) C dX12_holds_13 (by decide) (fun c25 => ?_) (fun c25 => ?_)
    · rw [if_pos c25] at hf0
      refine r_subk [0] (lv' := [(0, .ref v0)]) rfl ?_
      exact J37 h v0 hf0
    · rw [if_neg c25] at hf0
      refine r_aload_n C dX12_holds_16 rfl ?_
      refine r_aload_n C dX12_holds_17 rfl ?_
      refine r_iload_n C dX12_holds_18 rfl ?_
      refine r_iload_n C dX12_holds_19 rfl ?_
      obtain ⟨u27, e26, hf0⟩ := ob hf0
      obtain ⟨t28, e29, hf0⟩ := ob hf0
      refine r_cV (ci := 12) (rest := [.ref v0]) (st2 := [.int t28, .ref v0]) C (s_X12_isIn e29) mk_X12_isIn rfl (ck_k e26) (by decide) im_X12_isIn sl_X12_isIn lk_X12_337 rfl rfl rfl dX12_holds_20 (Nat.le_of_ble_eq_true rfl) ⟨Nat.le_of_ble_eq_true rfl, Nat.le_of_ble_eq_true rfl⟩ ⟨Nat.le_of_ble_eq_true rfl, Nat.le_of_ble_eq_true rfl⟩ ?_
      refine r_ifeq (tgt := 30) C dX12_holds_23 (by decide) (fun c30 => ?_) (fun c30 => ?_)
      · rw [if_pos c30] at hf0
        refine r_iconst (v := 0) C dX12_holds_30 (by decide) ?_
        refine r_subk [] (lv' := []) rfl ?_
        exact J31 h v0 (0 : Int32) hf0
      · rw [if_neg c30] at hf0
        refine r_iconst (v := 1) C dX12_holds_26 (by decide) ?_
        refine r_goto (tgt := 31) C dX12_holds_27 (by decide) ?_
        refine r_subk [] (lv' := []) rfl ?_
        exact J31 h v0 (1 : Int32) hf0
def f_X12_fee (h : aH) (v0 : Nat) (v1 : Int32) : Option (Int32 × aH) := (ck h 12 v0).bind fun _ => (f_X12_isQuestion h v0 v1).bind fun t1 => if t1 = 0 then (ck h 12 v0).bind fun _ => bd2 (f_X12_refuse h v0 (1 : Int32)) fun t2 h3 => some (t2, h3) else (gR h 12 v0 0).bind fun t4 => (lI h t4 ((64 : Int32) + v1)).bind fun t5 => (ck h 12 v0).bind fun _ => bd2 (f_X12_gives h v0 t5) fun t6 h7 => some (t6, h7)
theorem s_X12_fee {h : aH} {v0 : Nat} {v1 : Int32} {out : Int32 × aH} (hf0 : f_X12_fee h v0 v1 = some out) : EV 1 yX12_fee cX12_fee 2 (some .int) h [.ref v0, .int v1] (some (.int out.1)) out.2 0 0 := by
  refine EV.of (own := RX12) (lv0 := [(0, .ref v0), (1, .int v1)]) (by decide +kernel) rfl rfl (Nat.le_of_ble_eq_true rfl) ?_
  intro p l e s m args below meth c D cA B Hb C hin
  unfold f_X12_fee at hf0
  refine r_aload_n C dX12_fee_0 rfl ?_
  refine r_iload_n C dX12_fee_1 rfl ?_
  obtain ⟨u2, e1, hf0⟩ := ob hf0
  obtain ⟨t3, e4, hf0⟩ := ob hf0
  refine r_cV (ci := 12) (rest := []) (st2 := [.int t3]) C (s_X12_isQuestion e4) mk_X12_isQuestion rfl (ck_k e1) (by decide) im_X12_isQuestion sl_X12_isQuestion lk_X12_334 rfl rfl rfl dX12_fee_2 (Nat.le_of_ble_eq_true rfl) ⟨Nat.le_of_ble_eq_true rfl, Nat.le_of_ble_eq_true rfl⟩ ⟨Nat.le_of_ble_eq_true rfl, Nat.le_of_ble_eq_true rfl⟩ ?_
  refine r_ifeq (tgt := 24) C dX12_fee_5 (by decide) (fun c5 => ?_) (fun c5 => ?_)
  · rw [if_pos c5] at hf0
    refine r_aload_n C dX12_fee_24 rfl ?_
    refine r_iconst (v := 1) C dX12_fee_25 (by decide) ?_
    obtain ⟨u7, e6, hf0⟩ := ob hf0
    obtain ⟨t8, h9, e10, hf0⟩ := ob2 hf0
    refine r_cV (ci := 12) (rest := []) (st2 := [.int t8]) C (s_X12_refuse e10) mk_X12_refuse rfl (ck_k e6) (by decide) im_X12_refuse sl_X12_refuse lk_X12_197 rfl rfl rfl dX12_fee_26 (Nat.le_of_ble_eq_true rfl) ⟨Nat.le_of_ble_eq_true rfl, Nat.le_of_ble_eq_true rfl⟩ ⟨Nat.le_of_ble_eq_true rfl, Nat.le_of_ble_eq_true rfl⟩ ?_
    obtain rfl := so hf0
    exact r_iret C dX12_fee_29
  · rw [if_neg c5] at hf0
    refine r_aload_n C dX12_fee_8 rfl ?_
    refine r_aload_n C dX12_fee_9 rfl ?_
    obtain ⟨t11, e12, hf0⟩ := ob hf0
    refine r_getR C fk_X12_7 rfl dX12_fee_10 e12 ?_
    refine r_bipush (v := 64) C dX12_fee_13 (by decide) ?_
    refine r_iload_n C dX12_fee_15 rfl ?_
    refine r_iadd C dX12_fee_16 ?_
    obtain ⟨t13, e14, hf0⟩ := ob hf0
    refine r_ldI C dX12_fee_17 e14 ?_
    obtain ⟨u16, e15, hf0⟩ := ob hf0
    obtain ⟨t17, h18, e19, hf0⟩ := ob2 hf0
    refine r_cV (ci := 12) (rest := []) (st2 := [.int t17]) C (s_X12_gives e19) mk_X12_gives rfl (ck_k e15) (by decide) im_X12_gives sl_X12_gives lk_X12_200 rfl rfl rfl dX12_fee_18 (Nat.le_of_ble_eq_true rfl) ⟨Nat.le_of_ble_eq_true rfl, Nat.le_of_ble_eq_true rfl⟩ ⟨Nat.le_of_ble_eq_true rfl, Nat.le_of_ble_eq_true rfl⟩ ?_
    refine r_goto (tgt := 29) C dX12_fee_21 (by decide) ?_
    obtain rfl := so hf0
    exact r_iret C dX12_fee_29
def f_X12_witness_j30 (h : aH) (v0 : Nat) : Option (Int32 × aH) := (ck h 12 v0).bind fun _ => bd2 (f_X12_refuse h v0 (1 : Int32)) fun t1 h2 => some (t1, h2)
def f_X12_witness (h : aH) (v0 : Nat) (v1 : Int32) (v2 : Int32) : Option (Int32 × aH) := (ck h 12 v0).bind fun _ => (f_X12_isWitness h v0 v1).bind fun t3 => if t3 = 0 then f_X12_witness_j30 h v0 else if v2 < 0 then f_X12_witness_j30 h v0 else if (5 : Int32) < v2 then f_X12_witness_j30 h v0 else (ck h 12 v0).bind fun _ => (f_X12_ofWitness h v0 v1 v2).bind fun t4 => (ck h 12 v0).bind fun _ => bd2 (f_X12_gives h v0 t4) fun t5 h6 => some (t5, h6)
theorem s_X12_witness {h : aH} {v0 : Nat} {v1 : Int32} {v2 : Int32} {out : Int32 × aH} (hf0 : f_X12_witness h v0 v1 v2 = some out) : EV 1 yX12_witness cX12_witness 3 (some .int) h [.ref v0, .int v1, .int v2] (some (.int out.1)) out.2 0 0 := by
  refine EV.of (own := RX12) (lv0 := [(0, .ref v0), (1, .int v1), (2, .int v2)]) (by decide +kernel) rfl rfl (Nat.le_of_ble_eq_true rfl) ?_
  intro p l e s m args below meth c D cA B Hb C hin
  unfold f_X12_witness at hf0
  have J30 : ∀ (h1 : aH) (t2 : Nat), f_X12_witness_j30 h1 t2 = some out → gW p l e (rmO 1 0 0) s m args below meth c (MQ below (eQ D cA B Hb out.2 (some (.int out.1))) args s 0 0 (fun q => B ≤ q)) D cA B Hb 3 h1 30 [(0, .ref t2)] [] 0 0 := by
    intro h1 t2 hf0
    unfold f_X12_witness_j30 at hf0
    refine r_aload_n C dX12_witness_30 rfl ?_
    refine r_iconst (v := 1) C dX12_witness_31 (by decide) ?_
    obtain ⟨u4, e3, hf0⟩ := ob hf0
    obtain ⟨t5, h6, e7, hf0⟩ := ob2 hf0
    refine r_cV (ci := 12) (rest := []) (st2 := [.int t5]) C (s_X12_refuse e7) mk_X12_refuse rfl (ck_k e3) (by decide) im_X12_refuse sl_X12_refuse lk_X12_197 rfl rfl rfl dX12_witness_32 (Nat.le_of_ble_eq_true rfl) ⟨Nat.le_of_ble_eq_true rfl, Nat.le_of_ble_eq_true rfl⟩ ⟨Nat.le_of_ble_eq_true rfl, Nat.le_of_ble_eq_true rfl⟩ ?_
    obtain rfl := so hf0
    exact r_iret C dX12_witness_35
  refine r_aload_n C dX12_witness_0 rfl ?_
  refine r_iload_n C dX12_witness_1 rfl ?_
  obtain ⟨u9, e8, hf0⟩ := ob hf0
  obtain ⟨t10, e11, hf0⟩ := ob hf0
  refine r_cV (ci := 12) (rest := []) (st2 := [.int t10]) C (s_X12_isWitness e11) mk_X12_isWitness rfl (ck_k e8) (by decide) im_X12_isWitness sl_X12_isWitness lk_X12_340 rfl rfl rfl dX12_witness_2 (Nat.le_of_ble_eq_true rfl) ⟨Nat.le_of_ble_eq_true rfl, Nat.le_of_ble_eq_true rfl⟩ ⟨Nat.le_of_ble_eq_true rfl, Nat.le_of_ble_eq_true rfl⟩ ?_
  refine r_ifeq (tgt := 30) C dX12_witness_5 (by decide) (fun c12 => ?_) (fun c12 => ?_)
  · rw [if_pos c12] at hf0
    refine r_subk [0] (lv' := [(0, .ref v0)]) rfl ?_
    exact J30 h v0 hf0
  · rw [if_neg c12] at hf0
    refine r_iload_n C dX12_witness_8 rfl ?_
    refine r_iflt (tgt := 30) C dX12_witness_9 (by decide) (fun c13 => ?_) (fun c13 => ?_)
    · rw [if_pos c13] at hf0
      refine r_subk [0] (lv' := [(0, .ref v0)]) rfl ?_
      exact J30 h v0 hf0
    · rw [if_neg c13] at hf0
      refine r_iload_n C dX12_witness_12 rfl ?_
      refine r_iconst (v := 5) C dX12_witness_13 (by decide) ?_
      refine r_icmp_gt (tgt := 30) C dX12_witness_14 (by decide) (fun c14 => ?_) (fun c14 => ?_)
      · rw [if_pos c14] at hf0
        refine r_subk [0] (lv' := [(0, .ref v0)]) rfl ?_
        exact J30 h v0 hf0
      · rw [if_neg c14] at hf0
        refine r_aload_n C dX12_witness_17 rfl ?_
        refine r_aload_n C dX12_witness_18 rfl ?_
        refine r_iload_n C dX12_witness_19 rfl ?_
        refine r_iload_n C dX12_witness_20 rfl ?_
        obtain ⟨u16, e15, hf0⟩ := ob hf0
        obtain ⟨t17, e18, hf0⟩ := ob hf0
        refine r_cV (ci := 12) (rest := [.ref v0]) (st2 := [.int t17, .ref v0]) C (s_X12_ofWitness e18) mk_X12_ofWitness rfl (ck_k e15) (by decide) im_X12_ofWitness sl_X12_ofWitness lk_X12_343 rfl rfl rfl dX12_witness_21 (Nat.le_of_ble_eq_true rfl) ⟨Nat.le_of_ble_eq_true rfl, Nat.le_of_ble_eq_true rfl⟩ ⟨Nat.le_of_ble_eq_true rfl, Nat.le_of_ble_eq_true rfl⟩ ?_
        obtain ⟨u20, e19, hf0⟩ := ob hf0
        obtain ⟨t21, h22, e23, hf0⟩ := ob2 hf0
        refine r_cV (ci := 12) (rest := []) (st2 := [.int t21]) C (s_X12_gives e23) mk_X12_gives rfl (ck_k e19) (by decide) im_X12_gives sl_X12_gives lk_X12_200 rfl rfl rfl dX12_witness_24 (Nat.le_of_ble_eq_true rfl) ⟨Nat.le_of_ble_eq_true rfl, Nat.le_of_ble_eq_true rfl⟩ ⟨Nat.le_of_ble_eq_true rfl, Nat.le_of_ble_eq_true rfl⟩ ?_
        refine r_goto (tgt := 35) C dX12_witness_27 (by decide) ?_
        obtain rfl := so hf0
        exact r_iret C dX12_witness_35
def f_X12_saysAs (h : aH) (v0 : Nat) (v1 : Int32) (v2 : Int32) (v3 : Int32) (v4 : Int32) : Option (Int32) := (gR h 12 v0 31).bind fun t1 => (lI h t1 (((4 : Int32) * (((256 : Int32) * (((12 : Int32) * v1) + v2)) + v3)) + v4)).bind fun t2 => some t2
theorem s_X12_saysAs {h : aH} {v0 : Nat} {v1 : Int32} {v2 : Int32} {v3 : Int32} {v4 : Int32} {out : Int32} (hf0 : f_X12_saysAs h v0 v1 v2 v3 v4 = some out) : EV 0 yX12_saysAs cX12_saysAs 5 (some .int) h [.ref v0, .int v1, .int v2, .int v3, .int v4] (some (.int out)) h 0 0 := by
  refine EV.of (own := RX12) (lv0 := [(0, .ref v0), (1, .int v1), (2, .int v2), (3, .int v3), (4, .int v4)]) (by decide +kernel) rfl rfl (Nat.le_of_ble_eq_true rfl) ?_
  intro p l e s m args below meth c D cA B Hb C hin
  unfold f_X12_saysAs at hf0
  refine r_aload_n C dX12_saysAs_0 rfl ?_
  obtain ⟨t1, e2, hf0⟩ := ob hf0
  refine r_getR C fk_X12_60 rfl dX12_saysAs_1 e2 ?_
  refine r_iconst (v := 4) C dX12_saysAs_4 (by decide) ?_
  refine r_sipush (v := 256) C dX12_saysAs_5 (by decide) ?_
  refine r_bipush (v := 12) C dX12_saysAs_8 (by decide) ?_
  refine r_iload_n C dX12_saysAs_10 rfl ?_
  refine r_imul C dX12_saysAs_11 ?_
  refine r_iload_n C dX12_saysAs_12 rfl ?_
  refine r_iadd C dX12_saysAs_13 ?_
  refine r_imul C dX12_saysAs_14 ?_
  refine r_iload_n C dX12_saysAs_15 rfl ?_
  refine r_iadd C dX12_saysAs_16 ?_
  refine r_imul C dX12_saysAs_17 ?_
  refine r_iload C dX12_saysAs_18 rfl ?_
  refine r_iadd C dX12_saysAs_20 ?_
  obtain ⟨t3, e4, hf0⟩ := ob hf0
  refine r_ldI C dX12_saysAs_21 e4 ?_
  obtain rfl := so hf0
  exact r_iret C dX12_saysAs_22
def f_X12_answer_j32 (h : aH) (v0 : Nat) : Option (Int32 × aH) := (ck h 12 v0).bind fun _ => bd2 (f_X12_refuse h v0 (1 : Int32)) fun t1 h2 => some (t1, h2)
def f_X12_answer (h : aH) (v0 : Nat) (v1 : Int32) (v2 : Int32) (v3 : Int32) (v4 : Int32) : Option (Int32 × aH) := (ck h 12 v0).bind fun _ => (f_X12_isWitness h v0 v1).bind fun t3 => if t3 = 0 then f_X12_answer_j32 h v0 else (ck h 12 v0).bind fun _ => (f_X12_isQuestion h v0 v2).bind fun t4 => if t4 = 0 then f_X12_answer_j32 h v0 else (ck h 12 v0).bind fun _ => (f_X12_isWorld h v0 v3).bind fun t5 => if t5 = 0 then f_X12_answer_j32 h v0 else (f_X12_isKind h v4).bind fun t6 => if t6 = 0 then f_X12_answer_j32 h v0 else (ck h 12 v0).bind fun _ => (f_X12_isPossible h v0 v3).bind fun t7 => if t7 = 0 then (ck h 12 v0).bind fun _ => bd2 (f_X12_refuse h v0 (7 : Int32)) fun t8 h9 => some (t8, h9) else (ck h 12 v0).bind fun _ => (f_X12_saysAs h v0 v1 v2 v3 v4).bind fun t10 => (ck h 12 v0).bind fun _ => bd2 (f_X12_gives h v0 t10) fun t11 h12 => some (t11, h12)
theorem s_X12_answer {h : aH} {v0 : Nat} {v1 : Int32} {v2 : Int32} {v3 : Int32} {v4 : Int32} {out : Int32 × aH} (hf0 : f_X12_answer h v0 v1 v2 v3 v4 = some out) : EV 2 yX12_answer cX12_answer 5 (some .int) h [.ref v0, .int v1, .int v2, .int v3, .int v4] (some (.int out.1)) out.2 0 0 := by
  refine EV.of (own := RX12) (lv0 := [(0, .ref v0), (1, .int v1), (2, .int v2), (3, .int v3), (4, .int v4)]) (by decide +kernel) rfl rfl (Nat.le_of_ble_eq_true rfl) ?_
  intro p l e s m args below meth c D cA B Hb C hin
  unfold f_X12_answer at hf0
  have J32 : ∀ (h1 : aH) (t2 : Nat), f_X12_answer_j32 h1 t2 = some out → gW p l e (rmO 2 0 0) s m args below meth c (MQ below (eQ D cA B Hb out.2 (some (.int out.1))) args s 0 0 (fun q => B ≤ q)) D cA B Hb 5 h1 32 [(0, .ref t2)] [] 0 0 := by
    intro h1 t2 hf0
    unfold f_X12_answer_j32 at hf0
    refine r_aload_n C dX12_answer_32 rfl ?_
    refine r_iconst (v := 1) C dX12_answer_33 (by decide) ?_
    obtain ⟨u4, e3, hf0⟩ := ob hf0
    obtain ⟨t5, h6, e7, hf0⟩ := ob2 hf0
    refine r_cV (ci := 12) (rest := []) (st2 := [.int t5]) C (s_X12_refuse e7) mk_X12_refuse rfl (ck_k e3) (by decide) im_X12_refuse sl_X12_refuse lk_X12_197 rfl rfl rfl dX12_answer_34 (Nat.le_of_ble_eq_true rfl) ⟨Nat.le_of_ble_eq_true rfl, Nat.le_of_ble_eq_true rfl⟩ ⟨Nat.le_of_ble_eq_true rfl, Nat.le_of_ble_eq_true rfl⟩ ?_
    obtain rfl := so hf0
    exact r_iret C dX12_answer_37
  refine r_aload_n C dX12_answer_0 rfl ?_
  refine r_iload_n C dX12_answer_1 rfl ?_
  obtain ⟨u9, e8, hf0⟩ := ob hf0
  obtain ⟨t10, e11, hf0⟩ := ob hf0
  refine r_cV (ci := 12) (rest := []) (st2 := [.int t10]) C (s_X12_isWitness e11) mk_X12_isWitness rfl (ck_k e8) (by decide) im_X12_isWitness sl_X12_isWitness lk_X12_340 rfl rfl rfl dX12_answer_2 (Nat.le_of_ble_eq_true rfl) ⟨Nat.le_of_ble_eq_true rfl, Nat.le_of_ble_eq_true rfl⟩ ⟨Nat.le_of_ble_eq_true rfl, Nat.le_of_ble_eq_true rfl⟩ ?_
  refine r_ifeq (tgt := 32) C dX12_answer_5 (by decide) (fun c12 => ?_) (fun c12 => ?_)
  · rw [if_pos c12] at hf0
    refine r_subk [0] (lv' := [(0, .ref v0)]) rfl ?_
    exact J32 h v0 hf0
  · rw [if_neg c12] at hf0
    refine r_aload_n C dX12_answer_8 rfl ?_
    refine r_iload_n C dX12_answer_9 rfl ?_
    obtain ⟨u14, e13, hf0⟩ := ob hf0
    obtain ⟨t15, e16, hf0⟩ := ob hf0
    refine r_cV (ci := 12) (rest := []) (st2 := [.int t15]) C (s_X12_isQuestion e16) mk_X12_isQuestion rfl (ck_k e13) (by decide) im_X12_isQuestion sl_X12_isQuestion lk_X12_334 rfl rfl rfl dX12_answer_10 (Nat.le_of_ble_eq_true rfl) ⟨Nat.le_of_ble_eq_true rfl, Nat.le_of_ble_eq_true rfl⟩ ⟨Nat.le_of_ble_eq_true rfl, Nat.le_of_ble_eq_true rfl⟩ ?_
    refine r_ifeq (tgt := 32) C dX12_answer_13 (by decide) (fun c17 => ?_) (fun c17 => ?_)
    · rw [if_pos c17] at hf0
      refine r_subk [0] (lv' := [(0, .ref v0)]) rfl ?_
      exact J32 h v0 hf0
    · rw [if_neg c17] at hf0
      refine r_aload_n C dX12_answer_16 rfl ?_
      refine r_iload_n C dX12_answer_17 rfl ?_
      obtain ⟨u19, e18, hf0⟩ := ob hf0
      obtain ⟨t20, e21, hf0⟩ := ob hf0
      refine r_cV (ci := 12) (rest := []) (st2 := [.int t20]) C (s_X12_isWorld e21) mk_X12_isWorld rfl (ck_k e18) (by decide) im_X12_isWorld sl_X12_isWorld lk_X12_328 rfl rfl rfl dX12_answer_18 (Nat.le_of_ble_eq_true rfl) ⟨Nat.le_of_ble_eq_true rfl, Nat.le_of_ble_eq_true rfl⟩ ⟨Nat.le_of_ble_eq_true rfl, Nat.le_of_ble_eq_true rfl⟩ ?_
      refine r_ifeq (tgt := 32) C dX12_answer_21 (by decide) (fun c22 => ?_) (fun c22 => ?_)
      · rw [if_pos c22] at hf0
        refine r_subk [0] (lv' := [(0, .ref v0)]) rfl ?_
        exact J32 h v0 hf0
      · rw [if_neg c22] at hf0
        refine r_iload C dX12_answer_24 rfl ?_
        obtain ⟨t23, e24, hf0⟩ := ob hf0
        refine r_cS (rest := []) (st2 := [.int t23]) C (s_X12_isKind e24) mk_X12_isKind sm_X12_isKind lk_X12_365 rfl rfl rfl dX12_answer_26 (Nat.le_of_ble_eq_true rfl) ⟨Nat.le_of_ble_eq_true rfl, Nat.le_of_ble_eq_true rfl⟩ ⟨Nat.le_of_ble_eq_true rfl, Nat.le_of_ble_eq_true rfl⟩ ?_
        refine r_ifne (tgt := 38) C dX12_answer_29 (by decide) (fun c25 => ?_) (fun c25 => ?_)
        · rw [if_neg c25] at hf0
          refine r_aload_n C dX12_answer_38 rfl ?_
          refine r_iload_n C dX12_answer_39 rfl ?_
          obtain ⟨u27, e26, hf0⟩ := ob hf0
          obtain ⟨t28, e29, hf0⟩ := ob hf0
          refine r_cV (ci := 12) (rest := []) (st2 := [.int t28]) C (s_X12_isPossible e29) mk_X12_isPossible rfl (ck_k e26) (by decide) im_X12_isPossible sl_X12_isPossible lk_X12_331 rfl rfl rfl dX12_answer_40 (Nat.le_of_ble_eq_true rfl) ⟨Nat.le_of_ble_eq_true rfl, Nat.le_of_ble_eq_true rfl⟩ ⟨Nat.le_of_ble_eq_true rfl, Nat.le_of_ble_eq_true rfl⟩ ?_
          refine r_ifeq (tgt := 62) C dX12_answer_43 (by decide) (fun c30 => ?_) (fun c30 => ?_)
          · rw [if_pos c30] at hf0
            refine r_aload_n C dX12_answer_62 rfl ?_
            refine r_bipush (v := 7) C dX12_answer_63 (by decide) ?_
            obtain ⟨u32, e31, hf0⟩ := ob hf0
            obtain ⟨t33, h34, e35, hf0⟩ := ob2 hf0
            refine r_cV (ci := 12) (rest := []) (st2 := [.int t33]) C (s_X12_refuse e35) mk_X12_refuse rfl (ck_k e31) (by decide) im_X12_refuse sl_X12_refuse lk_X12_197 rfl rfl rfl dX12_answer_65 (Nat.le_of_ble_eq_true rfl) ⟨Nat.le_of_ble_eq_true rfl, Nat.le_of_ble_eq_true rfl⟩ ⟨Nat.le_of_ble_eq_true rfl, Nat.le_of_ble_eq_true rfl⟩ ?_
            obtain rfl := so hf0
            exact r_iret C dX12_answer_68
          · rw [if_neg c30] at hf0
            refine r_aload_n C dX12_answer_46 rfl ?_
            refine r_aload_n C dX12_answer_47 rfl ?_
            refine r_iload_n C dX12_answer_48 rfl ?_
            refine r_iload_n C dX12_answer_49 rfl ?_
            refine r_iload_n C dX12_answer_50 rfl ?_
            refine r_iload C dX12_answer_51 rfl ?_
            obtain ⟨u37, e36, hf0⟩ := ob hf0
            obtain ⟨t38, e39, hf0⟩ := ob hf0
            refine r_cV (ci := 12) (rest := [.ref v0]) (st2 := [.int t38, .ref v0]) C (s_X12_saysAs e39) mk_X12_saysAs rfl (ck_k e36) (by decide) im_X12_saysAs sl_X12_saysAs lk_X12_368 rfl rfl rfl dX12_answer_53 (Nat.le_of_ble_eq_true rfl) ⟨Nat.le_of_ble_eq_true rfl, Nat.le_of_ble_eq_true rfl⟩ ⟨Nat.le_of_ble_eq_true rfl, Nat.le_of_ble_eq_true rfl⟩ ?_
            obtain ⟨u41, e40, hf0⟩ := ob hf0
            obtain ⟨t42, h43, e44, hf0⟩ := ob2 hf0
            refine r_cV (ci := 12) (rest := []) (st2 := [.int t42]) C (s_X12_gives e44) mk_X12_gives rfl (ck_k e40) (by decide) im_X12_gives sl_X12_gives lk_X12_200 rfl rfl rfl dX12_answer_56 (Nat.le_of_ble_eq_true rfl) ⟨Nat.le_of_ble_eq_true rfl, Nat.le_of_ble_eq_true rfl⟩ ⟨Nat.le_of_ble_eq_true rfl, Nat.le_of_ble_eq_true rfl⟩ ?_
            refine r_goto (tgt := 68) C dX12_answer_59 (by decide) ?_
            obtain rfl := so hf0
            exact r_iret C dX12_answer_68
        · rw [if_pos c25] at hf0
          refine r_subk [0] (lv' := [(0, .ref v0)]) rfl ?_
          exact J32 h v0 hf0
def f_X12_mayBe_j26 (h : aH) (v0 : Nat) (v1 : Int32) (v3 : Int32) (s0 : Int32) (s1 : Int32) : Option ((Int32 × Int32) ⊕ (Int32)) := (some (s0 ||| s1)).bind fun t1 => (some (v3 + (1 : Int32))).bind fun t2 => some (.inl (t1, t2))
def f_X12_mayBe_b4 (h : aH) (v0 : Nat) (v1 : Int32) (v2 : Int32) (v3 : Int32) : Option ((Int32 × Int32) ⊕ (Int32)) := if (4 : Int32) ≤ v3 then some (.inr v2) else (ck h 12 v0).bind fun _ => (f_X12_ofWitness h v0 v1 v3).bind fun t3 => if t3 ≤ 0 then f_X12_mayBe_j26 h v0 v1 v3 v2 (0 : Int32) else f_X12_mayBe_j26 h v0 v1 v3 v2 ((1 : Int32) <<< (v3 &&& 31))
def f_X12_mayBe_l4 (h : aH) (v0 : Nat) (v1 : Int32) (v2 : Int32) (v3 : Int32) : Option (Int32) := whileL wN (fun q : Int32 × Int32 => f_X12_mayBe_b4 h v0 v1 q.1 q.2) (v2, v3)
def f_X12_mayBe (h : aH) (v0 : Nat) (v1 : Int32) : Option (Int32) := (f_X12_mayBe_l4 h v0 v1 (0 : Int32) (0 : Int32)).bind fun t4 => some t4
theorem s_X12_mayBe {h : aH} {v0 : Nat} {v1 : Int32} {out : Int32} (hf0 : f_X12_mayBe h v0 v1 = some out) : EV 1 yX12_mayBe cX12_mayBe 4 (some .int) h [.ref v0, .int v1] (some (.int out)) h 0 0 := by
  refine EV.of (own := RX12) (lv0 := [(0, .ref v0), (1, .int v1)]) (by decide +kernel) rfl rfl (Nat.le_of_ble_eq_true rfl) ?_
  intro p l e s m args below meth c D cA B Hb C hin
  unfold f_X12_mayBe at hf0
  refine r_iconst (v := 0) C dX12_mayBe_0 (by decide) ?_
  refine r_istore_n (lv' := [(2, .int (0 : Int32)), (0, .ref v0), (1, .int v1)]) C dX12_mayBe_1 (by decide) rfl rfl ?_
  refine r_iconst (v := 0) C dX12_mayBe_2 (by decide) ?_
  refine r_istore_n (lv' := [(3, .int (0 : Int32)), (2, .int (0 : Int32)), (0, .ref v0), (1, .int v1)]) C dX12_mayBe_3 (by decide) rfl rfl ?_
  obtain ⟨y1, hl4, hf0⟩ := ob hf0
  have L4 : ∀ (n : Nat) (t2 : Int32) (t3 : Int32), whileL n (fun q : Int32 × Int32 => f_X12_mayBe_b4 h v0 v1 q.1 q.2) (t2, t3) = some y1 → gW p l e (rmO 1 0 0) s m args below meth c (MQ below (eQ D cA B Hb h (some (.int out))) args s 0 0 (fun q => B ≤ q)) D cA B Hb 4 h 4 [(0, .ref v0), (1, .int v1), (2, .int t2), (3, .int t3)] [] 0 0 := by
    intro n
    induction n with
    | zero => intro t2 t3 hz; cases hz
    | succ n ih4 =>
      intro t2 t3 hz
      obtain ⟨x4, hf1, hk4⟩ := wl hz
      replace hf1 : f_X12_mayBe_b4 h v0 v1 t2 t3 = some x4 := hf1
      unfold f_X12_mayBe_b4 at hf1
      have J26 : ∀ (t4 : Int32) (t5 : Int32) (t6 : Int32), f_X12_mayBe_j26 h v0 v1 t4 t5 t6 = some x4 → gW p l e (rmO 1 0 0) s m args below meth c (MQ below (eQ D cA B Hb h (some (.int out))) args s 0 0 (fun q => B ≤ q)) D cA B Hb 4 h 26 [(0, .ref v0), (1, .int v1), (3, .int t4)] [.int t6, .int t5] 0 0 := by
        intro t4 t5 t6 hf1
        unfold f_X12_mayBe_j26 at hf1
        refine r_ior C dX12_mayBe_26 ?_
        obtain ⟨t7, e8, hf1⟩ := ob hf1
        refine r_istore_n (lv' := [(2, .int t7), (0, .ref v0), (1, .int v1), (3, .int t4)]) C dX12_mayBe_27 (by decide) e8 rfl ?_
        obtain ⟨t9, e10, hf1⟩ := ob hf1
        refine r_iinc (lv' := [(3, .int t9), (2, .int t7), (0, .ref v0), (1, .int v1)]) C dX12_mayBe_28 rfl e10 (by decide) rfl ?_
        refine r_goto (tgt := 4) C dX12_mayBe_31 (by decide) ?_
        obtain rfl := so hf1
        refine r_subk [2, 3, 1, 0] (lv' := [(0, .ref v0), (1, .int v1), (2, .int t7), (3, .int t9)]) rfl ?_
        exact ih4 t7 t9 hk4
      refine r_iload_n C dX12_mayBe_4 rfl ?_
      refine r_iconst (v := 4) C dX12_mayBe_5 (by decide) ?_
      refine r_icmp_ge (tgt := 34) C dX12_mayBe_6 (by decide) (fun c11 => ?_) (fun c11 => ?_)
      · rw [if_pos c11] at hf1
        obtain rfl := so hf1
        obtain rfl := so (show some t2 = some y1 from hk4)
        refine r_iload_n C dX12_mayBe_34 rfl ?_
        obtain rfl := so hf0
        exact r_iret C dX12_mayBe_35
      · rw [if_neg c11] at hf1
        refine r_iload_n C dX12_mayBe_9 rfl ?_
        refine r_aload_n C dX12_mayBe_10 rfl ?_
        refine r_iload_n C dX12_mayBe_11 rfl ?_
        refine r_iload_n C dX12_mayBe_12 rfl ?_
        obtain ⟨u13, e12, hf1⟩ := ob hf1
        obtain ⟨t14, e15, hf1⟩ := ob hf1
        refine r_cV (ci := 12) (rest := [.int t2]) (st2 := [.int t14, .int t2]) C (s_X12_ofWitness e15) mk_X12_ofWitness rfl (ck_k e12) (by decide) im_X12_ofWitness sl_X12_ofWitness lk_X12_343 rfl rfl rfl dX12_mayBe_13 (Nat.le_of_ble_eq_true rfl) ⟨Nat.le_of_ble_eq_true rfl, Nat.le_of_ble_eq_true rfl⟩ ⟨Nat.le_of_ble_eq_true rfl, Nat.le_of_ble_eq_true rfl⟩ ?_
        refine r_ifle (tgt := 25) C dX12_mayBe_16 (by decide) (fun c16 => ?_) (fun c16 => ?_)
        · rw [if_pos c16] at hf1
          refine r_iconst (v := 0) C dX12_mayBe_25 (by decide) ?_
          refine r_subk [0, 1, 3] (lv' := [(0, .ref v0), (1, .int v1), (3, .int t3)]) rfl ?_
          exact J26 t3 t2 (0 : Int32) hf1
        · rw [if_neg c16] at hf1
          refine r_iconst (v := 1) C dX12_mayBe_19 (by decide) ?_
          refine r_iload_n C dX12_mayBe_20 rfl ?_
          refine r_ishl C dX12_mayBe_21 ?_
          refine r_goto (tgt := 26) C dX12_mayBe_22 (by decide) ?_
          refine r_subk [0, 1, 3] (lv' := [(0, .ref v0), (1, .int v1), (3, .int t3)]) rfl ?_
          exact J26 t3 t2 ((1 : Int32) <<< (t3 &&& 31)) hf1
  refine r_subk [2, 3, 1, 0] (lv' := [(0, .ref v0), (1, .int v1), (2, .int (0 : Int32)), (3, .int (0 : Int32))]) rfl ?_
  exact L4 wN (0 : Int32) (0 : Int32) hl4
def f_X12_kindsFor_j36 (h : aH) (v0 : Nat) (v1 : Int32) (v2 : Int32) (v3 : Int32) (v4 : Int32) (v6 : Int32) (s0 : Int32) (s1 : Int32) : Option ((Int32 × Int32) ⊕ (Int32)) := (some (s0 ||| s1)).bind fun t1 => (some (v6 + (1 : Int32))).bind fun t2 => some (.inl (t1, t2))
def f_X12_kindsFor_b6 (h : aH) (v0 : Nat) (v1 : Int32) (v2 : Int32) (v3 : Int32) (v4 : Int32) (v5 : Int32) (v6 : Int32) : Option ((Int32 × Int32) ⊕ (Int32)) := if (4 : Int32) ≤ v6 then some (.inr v5) else (ck h 12 v0).bind fun _ => (f_X12_saysAs h v0 v1 v2 v3 v6).bind fun t3 => if t3 = v4 then f_X12_kindsFor_j36 h v0 v1 v2 v3 v4 v6 v5 ((1 : Int32) <<< (v6 &&& 31)) else f_X12_kindsFor_j36 h v0 v1 v2 v3 v4 v6 v5 (0 : Int32)
def f_X12_kindsFor_l6 (h : aH) (v0 : Nat) (v1 : Int32) (v2 : Int32) (v3 : Int32) (v4 : Int32) (v5 : Int32) (v6 : Int32) : Option (Int32) := whileL wN (fun q : Int32 × Int32 => f_X12_kindsFor_b6 h v0 v1 v2 v3 v4 q.1 q.2) (v5, v6)
def f_X12_kindsFor (h : aH) (v0 : Nat) (v1 : Int32) (v2 : Int32) (v3 : Int32) (v4 : Int32) : Option (Int32) := (f_X12_kindsFor_l6 h v0 v1 v2 v3 v4 (0 : Int32) (0 : Int32)).bind fun t4 => some t4
theorem s_X12_kindsFor {h : aH} {v0 : Nat} {v1 : Int32} {v2 : Int32} {v3 : Int32} {v4 : Int32} {out : Int32} (hf0 : f_X12_kindsFor h v0 v1 v2 v3 v4 = some out) : EV 1 yX12_kindsFor cX12_kindsFor 7 (some .int) h [.ref v0, .int v1, .int v2, .int v3, .int v4] (some (.int out)) h 0 0 := by
  refine EV.of (own := RX12) (lv0 := [(0, .ref v0), (1, .int v1), (2, .int v2), (3, .int v3), (4, .int v4)]) (by decide +kernel) rfl rfl (Nat.le_of_ble_eq_true rfl) ?_
  intro p l e s m args below meth c D cA B Hb C hin
  unfold f_X12_kindsFor at hf0
  refine r_iconst (v := 0) C dX12_kindsFor_0 (by decide) ?_
  refine r_istore (lv' := [(5, .int (0 : Int32)), (0, .ref v0), (1, .int v1), (2, .int v2), (3, .int v3), (4, .int v4)]) C dX12_kindsFor_1 (by decide) rfl rfl ?_
  refine r_iconst (v := 0) C dX12_kindsFor_3 (by decide) ?_
  refine r_istore (lv' := [(6, .int (0 : Int32)), (5, .int (0 : Int32)), (0, .ref v0), (1, .int v1), (2, .int v2), (3, .int v3), (4, .int v4)]) C dX12_kindsFor_4 (by decide) rfl rfl ?_
  obtain ⟨y1, hl6, hf0⟩ := ob hf0
  have L6 : ∀ (n : Nat) (t2 : Int32) (t3 : Int32), whileL n (fun q : Int32 × Int32 => f_X12_kindsFor_b6 h v0 v1 v2 v3 v4 q.1 q.2) (t2, t3) = some y1 → gW p l e (rmO 1 0 0) s m args below meth c (MQ below (eQ D cA B Hb h (some (.int out))) args s 0 0 (fun q => B ≤ q)) D cA B Hb 7 h 6 [(0, .ref v0), (1, .int v1), (2, .int v2), (3, .int v3), (4, .int v4), (5, .int t2), (6, .int t3)] [] 0 0 := by
    intro n
    induction n with
    | zero => intro t2 t3 hz; cases hz
    | succ n ih6 =>
      intro t2 t3 hz
      obtain ⟨x6, hf1, hk6⟩ := wl hz
      replace hf1 : f_X12_kindsFor_b6 h v0 v1 v2 v3 v4 t2 t3 = some x6 := hf1
      unfold f_X12_kindsFor_b6 at hf1
      have J36 : ∀ (t4 : Int32) (t5 : Int32) (t6 : Int32), f_X12_kindsFor_j36 h v0 v1 v2 v3 v4 t4 t5 t6 = some x6 → gW p l e (rmO 1 0 0) s m args below meth c (MQ below (eQ D cA B Hb h (some (.int out))) args s 0 0 (fun q => B ≤ q)) D cA B Hb 7 h 36 [(0, .ref v0), (1, .int v1), (2, .int v2), (3, .int v3), (4, .int v4), (6, .int t4)] [.int t6, .int t5] 0 0 := by
        intro t4 t5 t6 hf1
        unfold f_X12_kindsFor_j36 at hf1
        refine r_ior C dX12_kindsFor_36 ?_
        obtain ⟨t7, e8, hf1⟩ := ob hf1
        refine r_istore (lv' := [(5, .int t7), (0, .ref v0), (1, .int v1), (2, .int v2), (3, .int v3), (4, .int v4), (6, .int t4)]) C dX12_kindsFor_37 (by decide) e8 rfl ?_
        obtain ⟨t9, e10, hf1⟩ := ob hf1
        refine r_iinc (lv' := [(6, .int t9), (5, .int t7), (0, .ref v0), (1, .int v1), (2, .int v2), (3, .int v3), (4, .int v4)]) C dX12_kindsFor_39 rfl e10 (by decide) rfl ?_
        refine r_goto (tgt := 6) C dX12_kindsFor_42 (by decide) ?_
        obtain rfl := so hf1
        refine r_subk [2, 3, 4, 5, 6, 1, 0] (lv' := [(0, .ref v0), (1, .int v1), (2, .int v2), (3, .int v3), (4, .int v4), (5, .int t7), (6, .int t9)]) rfl ?_
        exact ih6 t7 t9 hk6
      refine r_iload C dX12_kindsFor_6 rfl ?_
      refine r_iconst (v := 4) C dX12_kindsFor_8 (by decide) ?_
      refine r_icmp_ge (tgt := 45) C dX12_kindsFor_9 (by decide) (fun c11 => ?_) (fun c11 => ?_)
      · rw [if_pos c11] at hf1
        obtain rfl := so hf1
        obtain rfl := so (show some t2 = some y1 from hk6)
        refine r_iload C dX12_kindsFor_45 rfl ?_
        obtain rfl := so hf0
        exact r_iret C dX12_kindsFor_47
      · rw [if_neg c11] at hf1
        refine r_iload C dX12_kindsFor_12 rfl ?_
        refine r_aload_n C dX12_kindsFor_14 rfl ?_
        refine r_iload_n C dX12_kindsFor_15 rfl ?_
        refine r_iload_n C dX12_kindsFor_16 rfl ?_
        refine r_iload_n C dX12_kindsFor_17 rfl ?_
        refine r_iload C dX12_kindsFor_18 rfl ?_
        obtain ⟨u13, e12, hf1⟩ := ob hf1
        obtain ⟨t14, e15, hf1⟩ := ob hf1
        refine r_cV (ci := 12) (rest := [.int t2]) (st2 := [.int t14, .int t2]) C (s_X12_saysAs e15) mk_X12_saysAs rfl (ck_k e12) (by decide) im_X12_saysAs sl_X12_saysAs lk_X12_368 rfl rfl rfl dX12_kindsFor_20 (Nat.le_of_ble_eq_true rfl) ⟨Nat.le_of_ble_eq_true rfl, Nat.le_of_ble_eq_true rfl⟩ ⟨Nat.le_of_ble_eq_true rfl, Nat.le_of_ble_eq_true rfl⟩ ?_
        refine r_iload C dX12_kindsFor_23 rfl ?_
        refine r_icmp_ne (tgt := 35) C dX12_kindsFor_25 (by decide) (fun c16 => ?_) (fun c16 => ?_)
        · rw [if_neg c16] at hf1
          refine r_iconst (v := 0) C dX12_kindsFor_35 (by decide) ?_
          refine r_subk [0, 1, 2, 3, 4, 6] (lv' := [(0, .ref v0), (1, .int v1), (2, .int v2), (3, .int v3), (4, .int v4), (6, .int t3)]) rfl ?_
          exact J36 t3 t2 (0 : Int32) hf1
        · rw [if_pos c16] at hf1
          refine r_iconst (v := 1) C dX12_kindsFor_28 (by decide) ?_
          refine r_iload C dX12_kindsFor_29 rfl ?_
          refine r_ishl C dX12_kindsFor_31 ?_
          refine r_goto (tgt := 36) C dX12_kindsFor_32 (by decide) ?_
          refine r_subk [0, 1, 2, 3, 4, 6] (lv' := [(0, .ref v0), (1, .int v1), (2, .int v2), (3, .int v3), (4, .int v4), (6, .int t3)]) rfl ?_
          exact J36 t3 t2 ((1 : Int32) <<< (t3 &&& 31)) hf1
  refine r_subk [2, 3, 4, 5, 6, 1, 0] (lv' := [(0, .ref v0), (1, .int v1), (2, .int v2), (3, .int v3), (4, .int v4), (5, .int (0 : Int32)), (6, .int (0 : Int32))]) rfl ?_
  exact L6 wN (0 : Int32) (0 : Int32) hl6
def f_X12_fitsBy_j115 (h : aH) (v0 : Nat) (v1 : Int32) (v2 : Int32) (v3 : Int32) (v4 : Int32) : Option ((Int32 × aH) ⊕ (aH)) := (gR h 12 v0 34).bind fun t3 => (sI h t3 (((256 : Int32) * v2) + v3) v4).bind fun h4 => (some (v3 + (1 : Int32))).bind fun t5 => some (.inl (t5, h4))
def f_X12_fitsBy_j109 (h : aH) (v0 : Nat) (v1 : Int32) (v2 : Int32) (v3 : Int32) (v4 : Int32) (v5 : Int32) : Option ((Int32 × Int32) ⊕ (Int32)) := (some (v5 + (1 : Int32))).bind fun t6 => some (.inl (v4, t6))
def f_X12_fitsBy_b46 (h : aH) (v0 : Nat) (v1 : Int32) (v2 : Int32) (v3 : Int32) (v4 : Int32) (v5 : Int32) : Option ((Int32 × Int32) ⊕ (Int32)) := (gR h 12 v0 0).bind fun t7 => (lI h t7 (6 : Int32)).bind fun t8 => if t8 ≤ v5 then some (.inr v4) else if v4 = 0 then some (.inr v4) else if ((v1 >>> (v5 &&& 31)) &&& (1 : Int32)) = (1 : Int32) then (ck h 12 v0).bind fun _ => (f_X12_ofHeard h v0 v5 (0 : Int32)).bind fun t9 => if t9 = v2 then (ck h 12 v0).bind fun _ => (f_X12_ofHeard h v0 v5 (1 : Int32)).bind fun t10 => (ck h 12 v0).bind fun _ => (f_X12_ofHeard h v0 v5 (2 : Int32)).bind fun t11 => (ck h 12 v0).bind fun _ => (f_X12_kindsFor h v0 v2 t10 v3 t11).bind fun t12 => (some (v4 &&& t12)).bind fun t13 => f_X12_fitsBy_j109 h v0 v1 v2 v3 t13 v5 else f_X12_fitsBy_j109 h v0 v1 v2 v3 v4 v5 else f_X12_fitsBy_j109 h v0 v1 v2 v3 v4 v5
def f_X12_fitsBy_l46 (h : aH) (v0 : Nat) (v1 : Int32) (v2 : Int32) (v3 : Int32) (v4 : Int32) (v5 : Int32) : Option (Int32) := whileL wN (fun q : Int32 × Int32 => f_X12_fitsBy_b46 h v0 v1 v2 v3 q.1 q.2) (v4, v5)
def f_X12_fitsBy_j41 (h : aH) (v0 : Nat) (v1 : Int32) (v2 : Int32) (v3 : Int32) (s0 : Int32) : Option ((Int32 × aH) ⊕ (aH)) := (f_X12_fitsBy_l46 h v0 v1 v2 v3 s0 (0 : Int32)).bind fun t14 => f_X12_fitsBy_j115 h v0 v1 v2 v3 t14
def f_X12_fitsBy_b14 (v0 : Nat) (v1 : Int32) (v2 : Int32) (v3 : Int32) (h : aH) : Option ((Int32 × aH) ⊕ (aH)) := (gR h 12 v0 0).bind fun t15 => (lI h t15 (2 : Int32)).bind fun t16 => if t16 ≤ v3 then some (.inr h) else (ck h 12 v0).bind fun _ => (f_X12_isPossible h v0 v3).bind fun t17 => if t17 = 0 then f_X12_fitsBy_j41 h v0 v1 v2 v3 (0 : Int32) else (ck h 12 v0).bind fun _ => (f_X12_mayBe h v0 v2).bind fun t18 => f_X12_fitsBy_j41 h v0 v1 v2 v3 t18
def f_X12_fitsBy_l14 (v0 : Nat) (v1 : Int32) (v2 : Int32) (v3 : Int32) (h : aH) : Option (aH) := whileL wN (fun q : Int32 × aH => f_X12_fitsBy_b14 v0 v1 v2 q.1 q.2) (v3, h)
def f_X12_fitsBy_b2 (v0 : Nat) (v1 : Int32) (v2 : Int32) (h : aH) : Option ((Int32 × aH) ⊕ (aH)) := (gR h 12 v0 0).bind fun t1 => (lI h t1 (4 : Int32)).bind fun t2 => if t2 ≤ v2 then some (.inr h) else (f_X12_fitsBy_l14 v0 v1 v2 (0 : Int32) h).bind fun h19 => (some (v2 + (1 : Int32))).bind fun t20 => some (.inl (t20, h19))
def f_X12_fitsBy_l2 (v0 : Nat) (v1 : Int32) (v2 : Int32) (h : aH) : Option (aH) := whileL wN (fun q : Int32 × aH => f_X12_fitsBy_b2 v0 v1 q.1 q.2) (v2, h)
def f_X12_fitsBy_b143 (v0 : Nat) (v2 : Int32) (h : aH) : Option ((Int32 × aH) ⊕ (aH)) := if (12 : Int32) ≤ v2 then some (.inr h) else (gR h 12 v0 35).bind fun t22 => (sZ h t22 v2 (0 : Int32)).bind fun h23 => (some (v2 + (1 : Int32))).bind fun t24 => some (.inl (t24, h23))
def f_X12_fitsBy_l143 (v0 : Nat) (v2 : Int32) (h : aH) : Option (aH) := whileL wN (fun q : Int32 × aH => f_X12_fitsBy_b143 v0 q.1 q.2) (v2, h)
def f_X12_fitsBy_b164 (v0 : Nat) (v2 : Int32) (h : aH) : Option ((Int32 × aH) ⊕ (aH)) := (gR h 12 v0 0).bind fun t26 => (lI h t26 (6 : Int32)).bind fun t27 => if t27 ≤ v2 then some (.inr h) else (gR h 12 v0 35).bind fun t28 => (ck h 12 v0).bind fun _ => (f_X12_ofHeard h v0 v2 (1 : Int32)).bind fun t29 => (sZ h t28 t29 (1 : Int32)).bind fun h30 => (some (v2 + (1 : Int32))).bind fun t31 => some (.inl (t31, h30))
def f_X12_fitsBy_l164 (v0 : Nat) (v2 : Int32) (h : aH) : Option (aH) := whileL wN (fun q : Int32 × aH => f_X12_fitsBy_b164 v0 q.1 q.2) (v2, h)
def f_X12_fitsBy (h : aH) (v0 : Nat) (v1 : Int32) : Option (aH) := (f_X12_fitsBy_l2 v0 v1 (0 : Int32) h).bind fun h21 => (f_X12_fitsBy_l143 v0 (0 : Int32) h21).bind fun h25 => (f_X12_fitsBy_l164 v0 (0 : Int32) h25).bind fun h32 => some h32
theorem s_X12_fitsBy {h : aH} {v0 : Nat} {v1 : Int32} {out : aH} (hf0 : f_X12_fitsBy h v0 v1 = some out) : EV 2 yX12_fitsBy cX12_fitsBy 6 none h [.ref v0, .int v1] none out 0 0 := by
  refine EV.of (own := RX12) (lv0 := [(0, .ref v0), (1, .int v1)]) (by decide +kernel) rfl rfl (Nat.le_of_ble_eq_true rfl) ?_
  intro p l e s m args below meth c D cA B Hb C hin
  unfold f_X12_fitsBy at hf0
  refine r_iconst (v := 0) C dX12_fitsBy_0 (by decide) ?_
  refine r_istore_n (lv' := [(2, .int (0 : Int32)), (0, .ref v0), (1, .int v1)]) C dX12_fitsBy_1 (by decide) rfl rfl ?_
  obtain ⟨y1, hl2, hf0⟩ := ob hf0
  have L2 : ∀ (n : Nat) (t2 : Int32) (h3 : aH), whileL n (fun q : Int32 × aH => f_X12_fitsBy_b2 v0 v1 q.1 q.2) (t2, h3) = some y1 → gW p l e (rmO 2 0 0) s m args below meth c (MQ below (eQ D cA B Hb out none) args s 0 0 (fun q => B ≤ q)) D cA B Hb 6 h3 2 [(0, .ref v0), (1, .int v1), (2, .int t2)] [] 0 0 := by
    intro n
    induction n with
    | zero => intro t2 h3 hz; cases hz
    | succ n ih2 =>
      intro t2 h3 hz
      obtain ⟨x2, hf1, hk2⟩ := wl hz
      replace hf1 : f_X12_fitsBy_b2 v0 v1 t2 h3 = some x2 := hf1
      unfold f_X12_fitsBy_b2 at hf1
      refine r_iload_n C dX12_fitsBy_2 rfl ?_
      refine r_aload_n C dX12_fitsBy_3 rfl ?_
      obtain ⟨t4, e5, hf1⟩ := ob hf1
      refine r_getR C fk_X12_7 rfl dX12_fitsBy_4 e5 ?_
      refine r_iconst (v := 4) C dX12_fitsBy_7 (by decide) ?_
      obtain ⟨t6, e7, hf1⟩ := ob hf1
      refine r_ldI C dX12_fitsBy_8 e7 ?_
      refine r_icmp_ge (tgt := 141) C dX12_fitsBy_9 (by decide) (fun c8 => ?_) (fun c8 => ?_)
      · rw [if_pos c8] at hf1
        obtain rfl := so hf1
        obtain rfl := so (show some h3 = some y1 from hk2)
        refine r_iconst (v := 0) C dX12_fitsBy_141 (by decide) ?_
        refine r_istore_n (lv' := [(2, .int (0 : Int32)), (0, .ref v0), (1, .int v1)]) C dX12_fitsBy_142 (by decide) rfl rfl ?_
        obtain ⟨y9, hl143, hf0⟩ := ob hf0
        have L143 : ∀ (n : Nat) (t10 : Int32) (h11 : aH), whileL n (fun q : Int32 × aH => f_X12_fitsBy_b143 v0 q.1 q.2) (t10, h11) = some y9 → gW p l e (rmO 2 0 0) s m args below meth c (MQ below (eQ D cA B Hb out none) args s 0 0 (fun q => B ≤ q)) D cA B Hb 6 h11 143 [(0, .ref v0), (2, .int t10)] [] 0 0 := by
          intro n
          induction n with
          | zero => intro t10 h11 hz; cases hz
          | succ n ih143 =>
            intro t10 h11 hz
            obtain ⟨x143, hf1, hk143⟩ := wl hz
            replace hf1 : f_X12_fitsBy_b143 v0 t10 h11 = some x143 := hf1
            unfold f_X12_fitsBy_b143 at hf1
            refine r_iload_n C dX12_fitsBy_143 rfl ?_
            refine r_bipush (v := 12) C dX12_fitsBy_144 (by decide) ?_
            refine r_icmp_ge (tgt := 162) C dX12_fitsBy_146 (by decide) (fun c12 => ?_) (fun c12 => ?_)
            · rw [if_pos c12] at hf1
              obtain rfl := so hf1
              obtain rfl := so (show some h11 = some y9 from hk143)
              refine r_iconst (v := 0) C dX12_fitsBy_162 (by decide) ?_
              refine r_istore_n (lv' := [(2, .int (0 : Int32)), (0, .ref v0)]) C dX12_fitsBy_163 (by decide) rfl rfl ?_
              obtain ⟨y13, hl164, hf0⟩ := ob hf0
              have L164 : ∀ (n : Nat) (t14 : Int32) (h15 : aH), whileL n (fun q : Int32 × aH => f_X12_fitsBy_b164 v0 q.1 q.2) (t14, h15) = some y13 → gW p l e (rmO 2 0 0) s m args below meth c (MQ below (eQ D cA B Hb out none) args s 0 0 (fun q => B ≤ q)) D cA B Hb 6 h15 164 [(0, .ref v0), (2, .int t14)] [] 0 0 := by
                intro n
                induction n with
                | zero => intro t14 h15 hz; cases hz
                | succ n ih164 =>
                  intro t14 h15 hz
                  obtain ⟨x164, hf1, hk164⟩ := wl hz
                  replace hf1 : f_X12_fitsBy_b164 v0 t14 h15 = some x164 := hf1
                  unfold f_X12_fitsBy_b164 at hf1
                  refine r_iload_n C dX12_fitsBy_164 rfl ?_
                  refine r_aload_n C dX12_fitsBy_165 rfl ?_
                  obtain ⟨t16, e17, hf1⟩ := ob hf1
                  refine r_getR C fk_X12_7 rfl dX12_fitsBy_166 e17 ?_
                  refine r_bipush (v := 6) C dX12_fitsBy_169 (by decide) ?_
                  obtain ⟨t18, e19, hf1⟩ := ob hf1
                  refine r_ldI C dX12_fitsBy_171 e19 ?_
                  refine r_icmp_ge (tgt := 193) C dX12_fitsBy_172 (by decide) (fun c20 => ?_) (fun c20 => ?_)
                  · rw [if_pos c20] at hf1
                    obtain rfl := so hf1
                    obtain rfl := so (show some h15 = some y13 from hk164)
                    obtain rfl := so hf0
                    exact r_vret C dX12_fitsBy_193
                  · rw [if_neg c20] at hf1
                    refine r_aload_n C dX12_fitsBy_175 rfl ?_
                    obtain ⟨t21, e22, hf1⟩ := ob hf1
                    refine r_getR C fk_X12_72 rfl dX12_fitsBy_176 e22 ?_
                    refine r_aload_n C dX12_fitsBy_179 rfl ?_
                    refine r_iload_n C dX12_fitsBy_180 rfl ?_
                    refine r_iconst (v := 1) C dX12_fitsBy_181 (by decide) ?_
                    obtain ⟨u24, e23, hf1⟩ := ob hf1
                    obtain ⟨t25, e26, hf1⟩ := ob hf1
                    refine r_cV (ci := 12) (rest := [.ref t21]) (st2 := [.int t25, .ref t21]) C (s_X12_ofHeard e26) mk_X12_ofHeard rfl (ck_k e23) (by decide) im_X12_ofHeard sl_X12_ofHeard lk_X12_322 rfl rfl rfl dX12_fitsBy_182 (Nat.le_of_ble_eq_true rfl) ⟨Nat.le_of_ble_eq_true rfl, Nat.le_of_ble_eq_true rfl⟩ ⟨Nat.le_of_ble_eq_true rfl, Nat.le_of_ble_eq_true rfl⟩ ?_
                    refine r_iconst (v := 1) C dX12_fitsBy_185 (by decide) ?_
                    obtain ⟨h27, e28, hf1⟩ := ob hf1
                    refine r_stZ C dX12_fitsBy_186 e28 ?_
                    obtain ⟨t29, e30, hf1⟩ := ob hf1
                    refine r_iinc (lv' := [(2, .int t29), (0, .ref v0)]) C dX12_fitsBy_187 rfl e30 (by decide) rfl ?_
                    refine r_goto (tgt := 164) C dX12_fitsBy_190 (by decide) ?_
                    obtain rfl := so hf1
                    refine r_subk [1, 0] (lv' := [(0, .ref v0), (2, .int t29)]) rfl ?_
                    exact ih164 t29 h27 hk164
              refine r_subk [1, 0] (lv' := [(0, .ref v0), (2, .int (0 : Int32))]) rfl ?_
              exact L164 wN (0 : Int32) h11 hl164
            · rw [if_neg c12] at hf1
              refine r_aload_n C dX12_fitsBy_149 rfl ?_
              obtain ⟨t31, e32, hf1⟩ := ob hf1
              refine r_getR C fk_X12_72 rfl dX12_fitsBy_150 e32 ?_
              refine r_iload_n C dX12_fitsBy_153 rfl ?_
              refine r_iconst (v := 0) C dX12_fitsBy_154 (by decide) ?_
              obtain ⟨h33, e34, hf1⟩ := ob hf1
              refine r_stZ C dX12_fitsBy_155 e34 ?_
              obtain ⟨t35, e36, hf1⟩ := ob hf1
              refine r_iinc (lv' := [(2, .int t35), (0, .ref v0)]) C dX12_fitsBy_156 rfl e36 (by decide) rfl ?_
              refine r_goto (tgt := 143) C dX12_fitsBy_159 (by decide) ?_
              obtain rfl := so hf1
              refine r_subk [1, 0] (lv' := [(0, .ref v0), (2, .int t35)]) rfl ?_
              exact ih143 t35 h33 hk143
        refine r_subk [1, 0] (lv' := [(0, .ref v0), (2, .int (0 : Int32))]) rfl ?_
        exact L143 wN (0 : Int32) h3 hl143
      · rw [if_neg c8] at hf1
        refine r_iconst (v := 0) C dX12_fitsBy_12 (by decide) ?_
        refine r_istore_n (lv' := [(3, .int (0 : Int32)), (0, .ref v0), (1, .int v1), (2, .int t2)]) C dX12_fitsBy_13 (by decide) rfl rfl ?_
        obtain ⟨y37, hl14, hf1⟩ := ob hf1
        have L14 : ∀ (n : Nat) (t38 : Int32) (h39 : aH), whileL n (fun q : Int32 × aH => f_X12_fitsBy_b14 v0 v1 t2 q.1 q.2) (t38, h39) = some y37 → gW p l e (rmO 2 0 0) s m args below meth c (MQ below (eQ D cA B Hb out none) args s 0 0 (fun q => B ≤ q)) D cA B Hb 6 h39 14 [(0, .ref v0), (1, .int v1), (2, .int t2), (3, .int t38)] [] 0 0 := by
          intro n
          induction n with
          | zero => intro t38 h39 hz; cases hz
          | succ n ih14 =>
            intro t38 h39 hz
            obtain ⟨x14, hf2, hk14⟩ := wl hz
            replace hf2 : f_X12_fitsBy_b14 v0 v1 t2 t38 h39 = some x14 := hf2
            unfold f_X12_fitsBy_b14 at hf2
            have J115 : ∀ (h40 : aH) (t41 : Int32) (t42 : Int32), f_X12_fitsBy_j115 h40 v0 v1 t2 t41 t42 = some x14 → gW p l e (rmO 2 0 0) s m args below meth c (MQ below (eQ D cA B Hb out none) args s 0 0 (fun q => B ≤ q)) D cA B Hb 6 h40 115 [(0, .ref v0), (1, .int v1), (2, .int t2), (3, .int t41), (4, .int t42)] [] 0 0 := by
              intro h40 t41 t42 hf2
              unfold f_X12_fitsBy_j115 at hf2
              refine r_aload_n C dX12_fitsBy_115 rfl ?_
              obtain ⟨t43, e44, hf2⟩ := ob hf2
              refine r_getR C fk_X12_69 rfl dX12_fitsBy_116 e44 ?_
              refine r_sipush (v := 256) C dX12_fitsBy_119 (by decide) ?_
              refine r_iload_n C dX12_fitsBy_122 rfl ?_
              refine r_imul C dX12_fitsBy_123 ?_
              refine r_iload_n C dX12_fitsBy_124 rfl ?_
              refine r_iadd C dX12_fitsBy_125 ?_
              refine r_iload C dX12_fitsBy_126 rfl ?_
              obtain ⟨h45, e46, hf2⟩ := ob hf2
              refine r_stI C dX12_fitsBy_128 e46 ?_
              obtain ⟨t47, e48, hf2⟩ := ob hf2
              refine r_iinc (lv' := [(3, .int t47), (0, .ref v0), (1, .int v1), (2, .int t2), (4, .int t42)]) C dX12_fitsBy_129 rfl e48 (by decide) rfl ?_
              refine r_goto (tgt := 14) C dX12_fitsBy_132 (by decide) ?_
              obtain rfl := so hf2
              refine r_subk [1, 2, 3, 0] (lv' := [(0, .ref v0), (1, .int v1), (2, .int t2), (3, .int t47)]) rfl ?_
              exact ih14 t47 h45 hk14
            have J41 : ∀ (h49 : aH) (t50 : Int32) (t51 : Int32), f_X12_fitsBy_j41 h49 v0 v1 t2 t50 t51 = some x14 → gW p l e (rmO 2 0 0) s m args below meth c (MQ below (eQ D cA B Hb out none) args s 0 0 (fun q => B ≤ q)) D cA B Hb 6 h49 41 [(0, .ref v0), (1, .int v1), (2, .int t2), (3, .int t50)] [.int t51] 0 0 := by
              intro h49 t50 t51 hf2
              unfold f_X12_fitsBy_j41 at hf2
              refine r_istore (lv' := [(4, .int t51), (0, .ref v0), (1, .int v1), (2, .int t2), (3, .int t50)]) C dX12_fitsBy_41 (by decide) rfl rfl ?_
              refine r_iconst (v := 0) C dX12_fitsBy_43 (by decide) ?_
              refine r_istore (lv' := [(5, .int (0 : Int32)), (4, .int t51), (0, .ref v0), (1, .int v1), (2, .int t2), (3, .int t50)]) C dX12_fitsBy_44 (by decide) rfl rfl ?_
              obtain ⟨y52, hl46, hf2⟩ := ob hf2
              have L46 : ∀ (n : Nat) (t53 : Int32) (t54 : Int32), whileL n (fun q : Int32 × Int32 => f_X12_fitsBy_b46 h49 v0 v1 t2 t50 q.1 q.2) (t53, t54) = some y52 → gW p l e (rmO 2 0 0) s m args below meth c (MQ below (eQ D cA B Hb out none) args s 0 0 (fun q => B ≤ q)) D cA B Hb 6 h49 46 [(0, .ref v0), (1, .int v1), (2, .int t2), (3, .int t50), (4, .int t53), (5, .int t54)] [] 0 0 := by
                intro n
                induction n with
                | zero => intro t53 t54 hz; cases hz
                | succ n ih46 =>
                  intro t53 t54 hz
                  obtain ⟨x46, hf3, hk46⟩ := wl hz
                  replace hf3 : f_X12_fitsBy_b46 h49 v0 v1 t2 t50 t53 t54 = some x46 := hf3
                  unfold f_X12_fitsBy_b46 at hf3
                  have J109 : ∀ (t55 : Int32) (t56 : Int32), f_X12_fitsBy_j109 h49 v0 v1 t2 t50 t55 t56 = some x46 → gW p l e (rmO 2 0 0) s m args below meth c (MQ below (eQ D cA B Hb out none) args s 0 0 (fun q => B ≤ q)) D cA B Hb 6 h49 109 [(0, .ref v0), (1, .int v1), (2, .int t2), (3, .int t50), (4, .int t55), (5, .int t56)] [] 0 0 := by
                    intro t55 t56 hf3
                    unfold f_X12_fitsBy_j109 at hf3
                    obtain ⟨t57, e58, hf3⟩ := ob hf3
                    refine r_iinc (lv' := [(5, .int t57), (0, .ref v0), (1, .int v1), (2, .int t2), (3, .int t50), (4, .int t55)]) C dX12_fitsBy_109 rfl e58 (by decide) rfl ?_
                    refine r_goto (tgt := 46) C dX12_fitsBy_112 (by decide) ?_
                    obtain rfl := so hf3
                    refine r_subk [1, 2, 3, 4, 5, 0] (lv' := [(0, .ref v0), (1, .int v1), (2, .int t2), (3, .int t50), (4, .int t55), (5, .int t57)]) rfl ?_
                    exact ih46 t55 t57 hk46
                  refine r_iload C dX12_fitsBy_46 rfl ?_
                  refine r_aload_n C dX12_fitsBy_48 rfl ?_
                  obtain ⟨t59, e60, hf3⟩ := ob hf3
                  refine r_getR C fk_X12_7 rfl dX12_fitsBy_49 e60 ?_
                  refine r_bipush (v := 6) C dX12_fitsBy_52 (by decide) ?_
                  obtain ⟨t61, e62, hf3⟩ := ob hf3
                  refine r_ldI C dX12_fitsBy_54 e62 ?_
                  refine r_icmp_ge (tgt := 115) C dX12_fitsBy_55 (by decide) (fun c63 => ?_) (fun c63 => ?_)
                  · rw [if_pos c63] at hf3
                    obtain rfl := so hf3
                    obtain rfl := so (show some t53 = some y52 from hk46)
                    refine r_subk [0, 1, 2, 3, 4] (lv' := [(0, .ref v0), (1, .int v1), (2, .int t2), (3, .int t50), (4, .int t53)]) rfl ?_
                    exact J115 h49 t50 t53 hf2
                  · rw [if_neg c63] at hf3
                    refine r_iload C dX12_fitsBy_58 rfl ?_
                    refine r_ifeq (tgt := 115) C dX12_fitsBy_60 (by decide) (fun c64 => ?_) (fun c64 => ?_)
                    · rw [if_pos c64] at hf3
                      obtain rfl := so hf3
                      obtain rfl := so (show some t53 = some y52 from hk46)
                      refine r_subk [0, 1, 2, 3, 4] (lv' := [(0, .ref v0), (1, .int v1), (2, .int t2), (3, .int t50), (4, .int t53)]) rfl ?_
                      exact J115 h49 t50 t53 hf2
                    · rw [if_neg c64] at hf3
                      refine r_iload_n C dX12_fitsBy_63 rfl ?_
                      refine r_iload C dX12_fitsBy_64 rfl ?_
                      refine r_ishr C dX12_fitsBy_66 ?_
                      refine r_iconst (v := 1) C dX12_fitsBy_67 (by decide) ?_
                      refine r_iand C dX12_fitsBy_68 ?_
                      refine r_iconst (v := 1) C dX12_fitsBy_69 (by decide) ?_
                      refine r_icmp_ne (tgt := 109) C dX12_fitsBy_70 (by decide) (fun c65 => ?_) (fun c65 => ?_)
                      · rw [if_neg c65] at hf3
                        exact J109 t53 t54 hf3
                      · rw [if_pos c65] at hf3
                        refine r_aload_n C dX12_fitsBy_73 rfl ?_
                        refine r_iload C dX12_fitsBy_74 rfl ?_
                        refine r_iconst (v := 0) C dX12_fitsBy_76 (by decide) ?_
                        obtain ⟨u67, e66, hf3⟩ := ob hf3
                        obtain ⟨t68, e69, hf3⟩ := ob hf3
                        refine r_cV (ci := 12) (rest := []) (st2 := [.int t68]) C (s_X12_ofHeard e69) mk_X12_ofHeard rfl (ck_k e66) (by decide) im_X12_ofHeard sl_X12_ofHeard lk_X12_322 rfl rfl rfl dX12_fitsBy_77 (Nat.le_of_ble_eq_true rfl) ⟨Nat.le_of_ble_eq_true rfl, Nat.le_of_ble_eq_true rfl⟩ ⟨Nat.le_of_ble_eq_true rfl, Nat.le_of_ble_eq_true rfl⟩ ?_
                        refine r_iload_n C dX12_fitsBy_80 rfl ?_
                        refine r_icmp_ne (tgt := 109) C dX12_fitsBy_81 (by decide) (fun c70 => ?_) (fun c70 => ?_)
                        · rw [if_neg c70] at hf3
                          exact J109 t53 t54 hf3
                        · rw [if_pos c70] at hf3
                          refine r_iload C dX12_fitsBy_84 rfl ?_
                          refine r_aload_n C dX12_fitsBy_86 rfl ?_
                          refine r_iload_n C dX12_fitsBy_87 rfl ?_
                          refine r_aload_n C dX12_fitsBy_88 rfl ?_
                          refine r_iload C dX12_fitsBy_89 rfl ?_
                          refine r_iconst (v := 1) C dX12_fitsBy_91 (by decide) ?_
                          obtain ⟨u72, e71, hf3⟩ := ob hf3
                          obtain ⟨t73, e74, hf3⟩ := ob hf3
                          refine r_cV (ci := 12) (rest := [.int t2, .ref v0, .int t53]) (st2 := [.int t73, .int t2, .ref v0, .int t53]) C (s_X12_ofHeard e74) mk_X12_ofHeard rfl (ck_k e71) (by decide) im_X12_ofHeard sl_X12_ofHeard lk_X12_322 rfl rfl rfl dX12_fitsBy_92 (Nat.le_of_ble_eq_true rfl) ⟨Nat.le_of_ble_eq_true rfl, Nat.le_of_ble_eq_true rfl⟩ ⟨Nat.le_of_ble_eq_true rfl, Nat.le_of_ble_eq_true rfl⟩ ?_
                          refine r_iload_n C dX12_fitsBy_95 rfl ?_
                          refine r_aload_n C dX12_fitsBy_96 rfl ?_
                          refine r_iload C dX12_fitsBy_97 rfl ?_
                          refine r_iconst (v := 2) C dX12_fitsBy_99 (by decide) ?_
                          obtain ⟨u76, e75, hf3⟩ := ob hf3
                          obtain ⟨t77, e78, hf3⟩ := ob hf3
                          refine r_cV (ci := 12) (rest := [.int t50, .int t73, .int t2, .ref v0, .int t53]) (st2 := [.int t77, .int t50, .int t73, .int t2, .ref v0, .int t53]) C (s_X12_ofHeard e78) mk_X12_ofHeard rfl (ck_k e75) (by decide) im_X12_ofHeard sl_X12_ofHeard lk_X12_322 rfl rfl rfl dX12_fitsBy_100 (Nat.le_of_ble_eq_true rfl) ⟨Nat.le_of_ble_eq_true rfl, Nat.le_of_ble_eq_true rfl⟩ ⟨Nat.le_of_ble_eq_true rfl, Nat.le_of_ble_eq_true rfl⟩ ?_
                          obtain ⟨u80, e79, hf3⟩ := ob hf3
                          obtain ⟨t81, e82, hf3⟩ := ob hf3
                          refine r_cV (ci := 12) (rest := [.int t53]) (st2 := [.int t81, .int t53]) C (s_X12_kindsFor e82) mk_X12_kindsFor rfl (ck_k e79) (by decide) im_X12_kindsFor sl_X12_kindsFor lk_X12_375 rfl rfl rfl dX12_fitsBy_103 (Nat.le_of_ble_eq_true rfl) ⟨Nat.le_of_ble_eq_true rfl, Nat.le_of_ble_eq_true rfl⟩ ⟨Nat.le_of_ble_eq_true rfl, Nat.le_of_ble_eq_true rfl⟩ ?_
                          refine r_iand C dX12_fitsBy_106 ?_
                          obtain ⟨t83, e84, hf3⟩ := ob hf3
                          refine r_istore (lv' := [(4, .int t83), (0, .ref v0), (1, .int v1), (2, .int t2), (3, .int t50), (5, .int t54)]) C dX12_fitsBy_107 (by decide) e84 rfl ?_
                          refine r_subk [1, 2, 3, 4, 0, 5] (lv' := [(0, .ref v0), (1, .int v1), (2, .int t2), (3, .int t50), (4, .int t83), (5, .int t54)]) rfl ?_
                          exact J109 t83 t54 hf3
              refine r_subk [2, 3, 4, 5, 1, 0] (lv' := [(0, .ref v0), (1, .int v1), (2, .int t2), (3, .int t50), (4, .int t51), (5, .int (0 : Int32))]) rfl ?_
              exact L46 wN t51 (0 : Int32) hl46
            refine r_iload_n C dX12_fitsBy_14 rfl ?_
            refine r_aload_n C dX12_fitsBy_15 rfl ?_
            obtain ⟨t85, e86, hf2⟩ := ob hf2
            refine r_getR C fk_X12_7 rfl dX12_fitsBy_16 e86 ?_
            refine r_iconst (v := 2) C dX12_fitsBy_19 (by decide) ?_
            obtain ⟨t87, e88, hf2⟩ := ob hf2
            refine r_ldI C dX12_fitsBy_20 e88 ?_
            refine r_icmp_ge (tgt := 135) C dX12_fitsBy_21 (by decide) (fun c89 => ?_) (fun c89 => ?_)
            · rw [if_pos c89] at hf2
              obtain rfl := so hf2
              obtain rfl := so (show some h39 = some y37 from hk14)
              obtain ⟨t90, e91, hf1⟩ := ob hf1
              refine r_iinc (lv' := [(2, .int t90), (0, .ref v0), (1, .int v1), (3, .int t38)]) C dX12_fitsBy_135 rfl e91 (by decide) rfl ?_
              refine r_goto (tgt := 2) C dX12_fitsBy_138 (by decide) ?_
              obtain rfl := so hf1
              refine r_subk [1, 2, 0] (lv' := [(0, .ref v0), (1, .int v1), (2, .int t90)]) rfl ?_
              exact ih2 t90 h39 hk2
            · rw [if_neg c89] at hf2
              refine r_aload_n C dX12_fitsBy_24 rfl ?_
              refine r_iload_n C dX12_fitsBy_25 rfl ?_
              obtain ⟨u93, e92, hf2⟩ := ob hf2
              obtain ⟨t94, e95, hf2⟩ := ob hf2
              refine r_cV (ci := 12) (rest := []) (st2 := [.int t94]) C (s_X12_isPossible e95) mk_X12_isPossible rfl (ck_k e92) (by decide) im_X12_isPossible sl_X12_isPossible lk_X12_331 rfl rfl rfl dX12_fitsBy_26 (Nat.le_of_ble_eq_true rfl) ⟨Nat.le_of_ble_eq_true rfl, Nat.le_of_ble_eq_true rfl⟩ ⟨Nat.le_of_ble_eq_true rfl, Nat.le_of_ble_eq_true rfl⟩ ?_
              refine r_ifeq (tgt := 40) C dX12_fitsBy_29 (by decide) (fun c96 => ?_) (fun c96 => ?_)
              · rw [if_pos c96] at hf2
                refine r_iconst (v := 0) C dX12_fitsBy_40 (by decide) ?_
                exact J41 h39 t38 (0 : Int32) hf2
              · rw [if_neg c96] at hf2
                refine r_aload_n C dX12_fitsBy_32 rfl ?_
                refine r_iload_n C dX12_fitsBy_33 rfl ?_
                obtain ⟨u98, e97, hf2⟩ := ob hf2
                obtain ⟨t99, e100, hf2⟩ := ob hf2
                refine r_cV (ci := 12) (rest := []) (st2 := [.int t99]) C (s_X12_mayBe e100) mk_X12_mayBe rfl (ck_k e97) (by decide) im_X12_mayBe sl_X12_mayBe lk_X12_372 rfl rfl rfl dX12_fitsBy_34 (Nat.le_of_ble_eq_true rfl) ⟨Nat.le_of_ble_eq_true rfl, Nat.le_of_ble_eq_true rfl⟩ ⟨Nat.le_of_ble_eq_true rfl, Nat.le_of_ble_eq_true rfl⟩ ?_
                refine r_goto (tgt := 41) C dX12_fitsBy_37 (by decide) ?_
                exact J41 h39 t38 t99 hf2
        refine r_subk [1, 2, 3, 0] (lv' := [(0, .ref v0), (1, .int v1), (2, .int t2), (3, .int (0 : Int32))]) rfl ?_
        exact L14 wN (0 : Int32) h3 hl14
  refine r_subk [1, 2, 0] (lv' := [(0, .ref v0), (1, .int v1), (2, .int (0 : Int32))]) rfl ?_
  exact L2 wN (0 : Int32) h hl2
def f_X12_fitsAll (h : aH) (v0 : Nat) : Option (aH) := (gR h 12 v0 0).bind fun t1 => (lI h t1 (6 : Int32)).bind fun t2 => (ck h 12 v0).bind fun _ => (f_X12_fitsBy h v0 (((1 : Int32) <<< (t2 &&& 31)) - (1 : Int32))).bind fun h3 => some h3
theorem s_X12_fitsAll {h : aH} {v0 : Nat} {out : aH} (hf0 : f_X12_fitsAll h v0 = some out) : EV 3 yX12_fitsAll cX12_fitsAll 1 none h [.ref v0] none out 0 0 := by
  refine EV.of (own := RX12) (lv0 := [(0, .ref v0)]) (by decide +kernel) rfl rfl (Nat.le_of_ble_eq_true rfl) ?_
  intro p l e s m args below meth c D cA B Hb C hin
  unfold f_X12_fitsAll at hf0
  refine r_aload_n C dX12_fitsAll_0 rfl ?_
  refine r_iconst (v := 1) C dX12_fitsAll_1 (by decide) ?_
  refine r_aload_n C dX12_fitsAll_2 rfl ?_
  obtain ⟨t1, e2, hf0⟩ := ob hf0
  refine r_getR C fk_X12_7 rfl dX12_fitsAll_3 e2 ?_
  refine r_bipush (v := 6) C dX12_fitsAll_6 (by decide) ?_
  obtain ⟨t3, e4, hf0⟩ := ob hf0
  refine r_ldI C dX12_fitsAll_8 e4 ?_
  refine r_ishl C dX12_fitsAll_9 ?_
  refine r_iconst (v := 1) C dX12_fitsAll_10 (by decide) ?_
  refine r_isub C dX12_fitsAll_11 ?_
  obtain ⟨u6, e5, hf0⟩ := ob hf0
  obtain ⟨h7, e8, hf0⟩ := ob hf0
  refine r_cV (ci := 12) (rest := []) (st2 := []) C (s_X12_fitsBy e8) mk_X12_fitsBy rfl (ck_k e5) (by decide) im_X12_fitsBy sl_X12_fitsBy lk_X12_378 rfl rfl rfl dX12_fitsAll_12 (Nat.le_of_ble_eq_true rfl) ⟨Nat.le_of_ble_eq_true rfl, Nat.le_of_ble_eq_true rfl⟩ ⟨Nat.le_of_ble_eq_true rfl, Nat.le_of_ble_eq_true rfl⟩ ?_
  obtain rfl := so hf0
  exact r_vret C dX12_fitsAll_15
def f_X12_isLeftAt_j51 (h : aH) (v0 : Nat) (v1 : Int32) (v2 : Int32) (v4 : Int32) (s0 : Int32) : Option ((Int32 × Int32) ⊕ (Int32)) := (some (v4 + (1 : Int32))).bind fun t2 => some (.inl (s0, t2))
def f_X12_isLeftAt_j50 (h : aH) (v0 : Nat) (v1 : Int32) (v2 : Int32) (v4 : Int32) : Option ((Int32 × Int32) ⊕ (Int32)) := f_X12_isLeftAt_j51 h v0 v1 v2 v4 (0 : Int32)
def f_X12_isLeftAt_b9 (h : aH) (v0 : Nat) (v1 : Int32) (v2 : Int32) (v3 : Int32) (v4 : Int32) : Option ((Int32 × Int32) ⊕ (Int32)) := (gR h 12 v0 0).bind fun t3 => (lI h t3 (4 : Int32)).bind fun t4 => if t4 ≤ v4 then some (.inr v3) else if v3 = 0 then f_X12_isLeftAt_j50 h v0 v1 v2 v4 else (gR h 12 v0 34).bind fun t5 => (lI h t5 ((((1024 : Int32) * v1) + ((256 : Int32) * v4)) + v2)).bind fun t6 => if t6 = 0 then f_X12_isLeftAt_j50 h v0 v1 v2 v4 else f_X12_isLeftAt_j51 h v0 v1 v2 v4 (1 : Int32)
def f_X12_isLeftAt_l9 (h : aH) (v0 : Nat) (v1 : Int32) (v2 : Int32) (v3 : Int32) (v4 : Int32) : Option (Int32) := whileL wN (fun q : Int32 × Int32 => f_X12_isLeftAt_b9 h v0 v1 v2 q.1 q.2) (v3, v4)
def f_X12_isLeftAt (h : aH) (v0 : Nat) (v1 : Int32) (v2 : Int32) : Option (Int32) := (ck h 12 v0).bind fun _ => (f_X12_isPossible h v0 v2).bind fun t1 => (f_X12_isLeftAt_l9 h v0 v1 v2 t1 (0 : Int32)).bind fun t7 => (rZ t7).bind fun t8 => some t8
theorem s_X12_isLeftAt {h : aH} {v0 : Nat} {v1 : Int32} {v2 : Int32} {out : Int32} (hf0 : f_X12_isLeftAt h v0 v1 v2 = some out) : EV 2 yX12_isLeftAt cX12_isLeftAt 5 (some .boolean) h [.ref v0, .int v1, .int v2] (some (.int out)) h 0 0 := by
  refine EV.of (own := RX12) (lv0 := [(0, .ref v0), (1, .int v1), (2, .int v2)]) (by decide +kernel) rfl rfl (Nat.le_of_ble_eq_true rfl) ?_
  intro p l e s m args below meth c D cA B Hb C hin
  unfold f_X12_isLeftAt at hf0
  refine r_aload_n C dX12_isLeftAt_0 rfl ?_
  refine r_iload_n C dX12_isLeftAt_1 rfl ?_
  obtain ⟨u2, e1, hf0⟩ := ob hf0
  obtain ⟨t3, e4, hf0⟩ := ob hf0
  refine r_cV (ci := 12) (rest := []) (st2 := [.int t3]) C (s_X12_isPossible e4) mk_X12_isPossible rfl (ck_k e1) (by decide) im_X12_isPossible sl_X12_isPossible lk_X12_331 rfl rfl rfl dX12_isLeftAt_2 (Nat.le_of_ble_eq_true rfl) ⟨Nat.le_of_ble_eq_true rfl, Nat.le_of_ble_eq_true rfl⟩ ⟨Nat.le_of_ble_eq_true rfl, Nat.le_of_ble_eq_true rfl⟩ ?_
  refine r_istore_n (lv' := [(3, .int t3), (0, .ref v0), (1, .int v1), (2, .int v2)]) C dX12_isLeftAt_5 (by decide) rfl rfl ?_
  refine r_iconst (v := 0) C dX12_isLeftAt_6 (by decide) ?_
  refine r_istore (lv' := [(4, .int (0 : Int32)), (3, .int t3), (0, .ref v0), (1, .int v1), (2, .int v2)]) C dX12_isLeftAt_7 (by decide) rfl rfl ?_
  obtain ⟨y5, hl9, hf0⟩ := ob hf0
  have L9 : ∀ (n : Nat) (t6 : Int32) (t7 : Int32), whileL n (fun q : Int32 × Int32 => f_X12_isLeftAt_b9 h v0 v1 v2 q.1 q.2) (t6, t7) = some y5 → gW p l e (rmO 2 0 0) s m args below meth c (MQ below (eQ D cA B Hb h (some (.int out))) args s 0 0 (fun q => B ≤ q)) D cA B Hb 5 h 9 [(0, .ref v0), (1, .int v1), (2, .int v2), (3, .int t6), (4, .int t7)] [] 0 0 := by
    intro n
    induction n with
    | zero => intro t6 t7 hz; cases hz
    | succ n ih9 =>
      intro t6 t7 hz
      obtain ⟨x9, hf1, hk9⟩ := wl hz
      replace hf1 : f_X12_isLeftAt_b9 h v0 v1 v2 t6 t7 = some x9 := hf1
      unfold f_X12_isLeftAt_b9 at hf1
      have J51 : ∀ (t8 : Int32) (t9 : Int32), f_X12_isLeftAt_j51 h v0 v1 v2 t8 t9 = some x9 → gW p l e (rmO 2 0 0) s m args below meth c (MQ below (eQ D cA B Hb h (some (.int out))) args s 0 0 (fun q => B ≤ q)) D cA B Hb 5 h 51 [(0, .ref v0), (1, .int v1), (2, .int v2), (4, .int t8)] [.int t9] 0 0 := by
        intro t8 t9 hf1
        unfold f_X12_isLeftAt_j51 at hf1
        refine r_istore_n (lv' := [(3, .int t9), (0, .ref v0), (1, .int v1), (2, .int v2), (4, .int t8)]) C dX12_isLeftAt_51 (by decide) rfl rfl ?_
        obtain ⟨t10, e11, hf1⟩ := ob hf1
        refine r_iinc (lv' := [(4, .int t10), (3, .int t9), (0, .ref v0), (1, .int v1), (2, .int v2)]) C dX12_isLeftAt_52 rfl e11 (by decide) rfl ?_
        refine r_goto (tgt := 9) C dX12_isLeftAt_55 (by decide) ?_
        obtain rfl := so hf1
        refine r_subk [2, 3, 4, 1, 0] (lv' := [(0, .ref v0), (1, .int v1), (2, .int v2), (3, .int t9), (4, .int t10)]) rfl ?_
        exact ih9 t9 t10 hk9
      have J50 : ∀ (t12 : Int32), f_X12_isLeftAt_j50 h v0 v1 v2 t12 = some x9 → gW p l e (rmO 2 0 0) s m args below meth c (MQ below (eQ D cA B Hb h (some (.int out))) args s 0 0 (fun q => B ≤ q)) D cA B Hb 5 h 50 [(0, .ref v0), (1, .int v1), (2, .int v2), (4, .int t12)] [] 0 0 := by
        intro t12 hf1
        unfold f_X12_isLeftAt_j50 at hf1
        refine r_iconst (v := 0) C dX12_isLeftAt_50 (by decide) ?_
        exact J51 t12 (0 : Int32) hf1
      refine r_iload C dX12_isLeftAt_9 rfl ?_
      refine r_aload_n C dX12_isLeftAt_11 rfl ?_
      obtain ⟨t13, e14, hf1⟩ := ob hf1
      refine r_getR C fk_X12_7 rfl dX12_isLeftAt_12 e14 ?_
      refine r_iconst (v := 4) C dX12_isLeftAt_15 (by decide) ?_
      obtain ⟨t15, e16, hf1⟩ := ob hf1
      refine r_ldI C dX12_isLeftAt_16 e16 ?_
      refine r_icmp_ge (tgt := 58) C dX12_isLeftAt_17 (by decide) (fun c17 => ?_) (fun c17 => ?_)
      · rw [if_pos c17] at hf1
        obtain rfl := so hf1
        obtain rfl := so (show some t6 = some y5 from hk9)
        refine r_iload_n C dX12_isLeftAt_58 rfl ?_
        obtain ⟨t18, e19, hf0⟩ := ob hf0
        obtain ⟨rfl, e19z⟩ := rZ_k e19
        obtain rfl := so hf0
        exact r_zret C dX12_isLeftAt_59 e19z
      · rw [if_neg c17] at hf1
        refine r_iload_n C dX12_isLeftAt_20 rfl ?_
        refine r_ifeq (tgt := 50) C dX12_isLeftAt_21 (by decide) (fun c20 => ?_) (fun c20 => ?_)
        · rw [if_pos c20] at hf1
          refine r_subk [0, 1, 2, 4] (lv' := [(0, .ref v0), (1, .int v1), (2, .int v2), (4, .int t7)]) rfl ?_
          exact J50 t7 hf1
        · rw [if_neg c20] at hf1
          refine r_aload_n C dX12_isLeftAt_24 rfl ?_
          obtain ⟨t21, e22, hf1⟩ := ob hf1
          refine r_getR C fk_X12_69 rfl dX12_isLeftAt_25 e22 ?_
          refine r_sipush (v := 1024) C dX12_isLeftAt_28 (by decide) ?_
          refine r_iload_n C dX12_isLeftAt_31 rfl ?_
          refine r_imul C dX12_isLeftAt_32 ?_
          refine r_sipush (v := 256) C dX12_isLeftAt_33 (by decide) ?_
          refine r_iload C dX12_isLeftAt_36 rfl ?_
          refine r_imul C dX12_isLeftAt_38 ?_
          refine r_iadd C dX12_isLeftAt_39 ?_
          refine r_iload_n C dX12_isLeftAt_40 rfl ?_
          refine r_iadd C dX12_isLeftAt_41 ?_
          obtain ⟨t23, e24, hf1⟩ := ob hf1
          refine r_ldI C dX12_isLeftAt_42 e24 ?_
          refine r_ifeq (tgt := 50) C dX12_isLeftAt_43 (by decide) (fun c25 => ?_) (fun c25 => ?_)
          · rw [if_pos c25] at hf1
            refine r_subk [0, 1, 2, 4] (lv' := [(0, .ref v0), (1, .int v1), (2, .int v2), (4, .int t7)]) rfl ?_
            exact J50 t7 hf1
          · rw [if_neg c25] at hf1
            refine r_iconst (v := 1) C dX12_isLeftAt_46 (by decide) ?_
            refine r_goto (tgt := 51) C dX12_isLeftAt_47 (by decide) ?_
            refine r_subk [0, 1, 2, 4] (lv' := [(0, .ref v0), (1, .int v1), (2, .int v2), (4, .int t7)]) rfl ?_
            exact J51 t7 (1 : Int32) hf1
  refine r_subk [2, 3, 4, 1, 0] (lv' := [(0, .ref v0), (1, .int v1), (2, .int v2), (3, .int t3), (4, .int (0 : Int32))]) rfl ?_
  exact L9 wN t3 (0 : Int32) hl9
def f_X12_leftAt_j29 (h : aH) (v0 : Nat) (v1 : Int32) (v3 : Int32) (s0 : Int32) (s1 : Int32) : Option ((Int32 × Int32) ⊕ (Int32)) := (some (s0 + s1)).bind fun t1 => (some (v3 + (1 : Int32))).bind fun t2 => some (.inl (t1, t2))
def f_X12_leftAt_b4 (h : aH) (v0 : Nat) (v1 : Int32) (v2 : Int32) (v3 : Int32) : Option ((Int32 × Int32) ⊕ (Int32)) := (gR h 12 v0 0).bind fun t3 => (lI h t3 (2 : Int32)).bind fun t4 => if t4 ≤ v3 then some (.inr v2) else (ck h 12 v0).bind fun _ => (f_X12_isLeftAt h v0 v1 v3).bind fun t5 => if t5 = 0 then f_X12_leftAt_j29 h v0 v1 v3 v2 (0 : Int32) else f_X12_leftAt_j29 h v0 v1 v3 v2 (1 : Int32)
def f_X12_leftAt_l4 (h : aH) (v0 : Nat) (v1 : Int32) (v2 : Int32) (v3 : Int32) : Option (Int32) := whileL wN (fun q : Int32 × Int32 => f_X12_leftAt_b4 h v0 v1 q.1 q.2) (v2, v3)
def f_X12_leftAt (h : aH) (v0 : Nat) (v1 : Int32) : Option (Int32) := (f_X12_leftAt_l4 h v0 v1 (0 : Int32) (0 : Int32)).bind fun t6 => some t6
theorem s_X12_leftAt {h : aH} {v0 : Nat} {v1 : Int32} {out : Int32} (hf0 : f_X12_leftAt h v0 v1 = some out) : EV 3 yX12_leftAt cX12_leftAt 4 (some .int) h [.ref v0, .int v1] (some (.int out)) h 0 0 := by
  refine EV.of (own := RX12) (lv0 := [(0, .ref v0), (1, .int v1)]) (by decide +kernel) rfl rfl (Nat.le_of_ble_eq_true rfl) ?_
  intro p l e s m args below meth c D cA B Hb C hin
  unfold f_X12_leftAt at hf0
  refine r_iconst (v := 0) C dX12_leftAt_0 (by decide) ?_
  refine r_istore_n (lv' := [(2, .int (0 : Int32)), (0, .ref v0), (1, .int v1)]) C dX12_leftAt_1 (by decide) rfl rfl ?_
  refine r_iconst (v := 0) C dX12_leftAt_2 (by decide) ?_
  refine r_istore_n (lv' := [(3, .int (0 : Int32)), (2, .int (0 : Int32)), (0, .ref v0), (1, .int v1)]) C dX12_leftAt_3 (by decide) rfl rfl ?_
  obtain ⟨y1, hl4, hf0⟩ := ob hf0
  have L4 : ∀ (n : Nat) (t2 : Int32) (t3 : Int32), whileL n (fun q : Int32 × Int32 => f_X12_leftAt_b4 h v0 v1 q.1 q.2) (t2, t3) = some y1 → gW p l e (rmO 3 0 0) s m args below meth c (MQ below (eQ D cA B Hb h (some (.int out))) args s 0 0 (fun q => B ≤ q)) D cA B Hb 4 h 4 [(0, .ref v0), (1, .int v1), (2, .int t2), (3, .int t3)] [] 0 0 := by
    intro n
    induction n with
    | zero => intro t2 t3 hz; cases hz
    | succ n ih4 =>
      intro t2 t3 hz
      obtain ⟨x4, hf1, hk4⟩ := wl hz
      replace hf1 : f_X12_leftAt_b4 h v0 v1 t2 t3 = some x4 := hf1
      unfold f_X12_leftAt_b4 at hf1
      have J29 : ∀ (t4 : Int32) (t5 : Int32) (t6 : Int32), f_X12_leftAt_j29 h v0 v1 t4 t5 t6 = some x4 → gW p l e (rmO 3 0 0) s m args below meth c (MQ below (eQ D cA B Hb h (some (.int out))) args s 0 0 (fun q => B ≤ q)) D cA B Hb 4 h 29 [(0, .ref v0), (1, .int v1), (3, .int t4)] [.int t6, .int t5] 0 0 := by
        intro t4 t5 t6 hf1
        unfold f_X12_leftAt_j29 at hf1
        refine r_iadd C dX12_leftAt_29 ?_
        obtain ⟨t7, e8, hf1⟩ := ob hf1
        refine r_istore_n (lv' := [(2, .int t7), (0, .ref v0), (1, .int v1), (3, .int t4)]) C dX12_leftAt_30 (by decide) e8 rfl ?_
        obtain ⟨t9, e10, hf1⟩ := ob hf1
        refine r_iinc (lv' := [(3, .int t9), (2, .int t7), (0, .ref v0), (1, .int v1)]) C dX12_leftAt_31 rfl e10 (by decide) rfl ?_
        refine r_goto (tgt := 4) C dX12_leftAt_34 (by decide) ?_
        obtain rfl := so hf1
        refine r_subk [2, 3, 1, 0] (lv' := [(0, .ref v0), (1, .int v1), (2, .int t7), (3, .int t9)]) rfl ?_
        exact ih4 t7 t9 hk4
      refine r_iload_n C dX12_leftAt_4 rfl ?_
      refine r_aload_n C dX12_leftAt_5 rfl ?_
      obtain ⟨t11, e12, hf1⟩ := ob hf1
      refine r_getR C fk_X12_7 rfl dX12_leftAt_6 e12 ?_
      refine r_iconst (v := 2) C dX12_leftAt_9 (by decide) ?_
      obtain ⟨t13, e14, hf1⟩ := ob hf1
      refine r_ldI C dX12_leftAt_10 e14 ?_
      refine r_icmp_ge (tgt := 37) C dX12_leftAt_11 (by decide) (fun c15 => ?_) (fun c15 => ?_)
      · rw [if_pos c15] at hf1
        obtain rfl := so hf1
        obtain rfl := so (show some t2 = some y1 from hk4)
        refine r_iload_n C dX12_leftAt_37 rfl ?_
        obtain rfl := so hf0
        exact r_iret C dX12_leftAt_38
      · rw [if_neg c15] at hf1
        refine r_iload_n C dX12_leftAt_14 rfl ?_
        refine r_aload_n C dX12_leftAt_15 rfl ?_
        refine r_iload_n C dX12_leftAt_16 rfl ?_
        refine r_iload_n C dX12_leftAt_17 rfl ?_
        obtain ⟨u17, e16, hf1⟩ := ob hf1
        obtain ⟨t18, e19, hf1⟩ := ob hf1
        refine r_cV (ci := 12) (rest := [.int t2]) (st2 := [.int t18, .int t2]) C (s_X12_isLeftAt e19) mk_X12_isLeftAt rfl (ck_k e16) (by decide) im_X12_isLeftAt sl_X12_isLeftAt lk_X12_381 rfl rfl rfl dX12_leftAt_18 (Nat.le_of_ble_eq_true rfl) ⟨Nat.le_of_ble_eq_true rfl, Nat.le_of_ble_eq_true rfl⟩ ⟨Nat.le_of_ble_eq_true rfl, Nat.le_of_ble_eq_true rfl⟩ ?_
        refine r_ifeq (tgt := 28) C dX12_leftAt_21 (by decide) (fun c20 => ?_) (fun c20 => ?_)
        · rw [if_pos c20] at hf1
          refine r_iconst (v := 0) C dX12_leftAt_28 (by decide) ?_
          refine r_subk [0, 1, 3] (lv' := [(0, .ref v0), (1, .int v1), (3, .int t3)]) rfl ?_
          exact J29 t3 t2 (0 : Int32) hf1
        · rw [if_neg c20] at hf1
          refine r_iconst (v := 1) C dX12_leftAt_24 (by decide) ?_
          refine r_goto (tgt := 29) C dX12_leftAt_25 (by decide) ?_
          refine r_subk [0, 1, 3] (lv' := [(0, .ref v0), (1, .int v1), (3, .int t3)]) rfl ?_
          exact J29 t3 t2 (1 : Int32) hf1
  refine r_subk [2, 3, 1, 0] (lv' := [(0, .ref v0), (1, .int v1), (2, .int (0 : Int32)), (3, .int (0 : Int32))]) rfl ?_
  exact L4 wN (0 : Int32) (0 : Int32) hl4
def f_X12_sureAt_j74 (h : aH) (v0 : Nat) (v1 : Int32) (v2 : Int32) (v3 : Int32) (v4 : Int32) (v5 : Int32) : Option ((Int32 × Int32 × Int32) ⊕ (Int32 × Int32)) := (some (v5 + (1 : Int32))).bind fun t1 => some (.inl (v3, v4, t1))
def f_X12_sureAt_j72 (h : aH) (v0 : Nat) (v1 : Int32) (v2 : Int32) (v3 : Int32) (v5 : Int32) (s0 : Int32) : Option ((Int32 × Int32 × Int32) ⊕ (Int32 × Int32)) := f_X12_sureAt_j74 h v0 v1 v2 v3 s0 v5
def f_X12_sureAt_j67 (h : aH) (v0 : Nat) (v1 : Int32) (v2 : Int32) (v3 : Int32) (v5 : Int32) : Option ((Int32 × Int32 × Int32) ⊕ (Int32 × Int32)) := f_X12_sureAt_j72 h v0 v1 v2 v3 v5 (1 : Int32)
def f_X12_sureAt_j51 (h : aH) (v0 : Nat) (v1 : Int32) (v2 : Int32) (v4 : Int32) (v5 : Int32) (s0 : Int32) : Option ((Int32 × Int32 × Int32) ⊕ (Int32 × Int32)) := if v4 = 0 then (ck h 12 v0).bind fun _ => (f_X12_isIn h v0 v2 v5).bind fun t2 => if t2 = 0 then f_X12_sureAt_j67 h v0 v1 v2 s0 v5 else f_X12_sureAt_j72 h v0 v1 v2 s0 v5 (0 : Int32) else f_X12_sureAt_j67 h v0 v1 v2 s0 v5
def f_X12_sureAt_j46 (h : aH) (v0 : Nat) (v1 : Int32) (v2 : Int32) (v4 : Int32) (v5 : Int32) : Option ((Int32 × Int32 × Int32) ⊕ (Int32 × Int32)) := f_X12_sureAt_j51 h v0 v1 v2 v4 v5 (1 : Int32)
def f_X12_sureAt_b8 (h : aH) (v0 : Nat) (v1 : Int32) (v2 : Int32) (v3 : Int32) (v4 : Int32) (v5 : Int32) : Option ((Int32 × Int32 × Int32) ⊕ (Int32 × Int32)) := (gR h 12 v0 0).bind fun t3 => (lI h t3 (2 : Int32)).bind fun t4 => if t4 ≤ v5 then some (.inr (v3, v4)) else (ck h 12 v0).bind fun _ => (f_X12_isLeftAt h v0 v1 v5).bind fun t5 => if t5 = 0 then f_X12_sureAt_j74 h v0 v1 v2 v3 v4 v5 else if v3 = 0 then (ck h 12 v0).bind fun _ => (f_X12_isIn h v0 v2 v5).bind fun t6 => if t6 = 0 then f_X12_sureAt_j51 h v0 v1 v2 v4 v5 (0 : Int32) else f_X12_sureAt_j46 h v0 v1 v2 v4 v5 else f_X12_sureAt_j46 h v0 v1 v2 v4 v5
def f_X12_sureAt_l8 (h : aH) (v0 : Nat) (v1 : Int32) (v2 : Int32) (v3 : Int32) (v4 : Int32) (v5 : Int32) : Option (Int32 × Int32) := whileL wN (fun q : Int32 × Int32 × Int32 => f_X12_sureAt_b8 h v0 v1 v2 q.1 q.2.1 q.2.2) (v3, v4, v5)
def f_X12_sureAt (h : aH) (v0 : Nat) (v1 : Int32) (v2 : Int32) : Option (Int32) := bd2 (f_X12_sureAt_l8 h v0 v1 v2 (0 : Int32) (0 : Int32) (0 : Int32)) fun t7 t8 => if t7 = t8 then some (-1 : Int32) else if t7 = 0 then some (0 : Int32) else some (1 : Int32)
theorem s_X12_sureAt {h : aH} {v0 : Nat} {v1 : Int32} {v2 : Int32} {out : Int32} (hf0 : f_X12_sureAt h v0 v1 v2 = some out) : EV 3 yX12_sureAt cX12_sureAt 6 (some .int) h [.ref v0, .int v1, .int v2] (some (.int out)) h 0 0 := by
  refine EV.of (own := RX12) (lv0 := [(0, .ref v0), (1, .int v1), (2, .int v2)]) (by decide +kernel) rfl rfl (Nat.le_of_ble_eq_true rfl) ?_
  intro p l e s m args below meth c D cA B Hb C hin
  unfold f_X12_sureAt at hf0
  refine r_iconst (v := 0) C dX12_sureAt_0 (by decide) ?_
  refine r_istore_n (lv' := [(3, .int (0 : Int32)), (0, .ref v0), (1, .int v1), (2, .int v2)]) C dX12_sureAt_1 (by decide) rfl rfl ?_
  refine r_iconst (v := 0) C dX12_sureAt_2 (by decide) ?_
  refine r_istore (lv' := [(4, .int (0 : Int32)), (3, .int (0 : Int32)), (0, .ref v0), (1, .int v1), (2, .int v2)]) C dX12_sureAt_3 (by decide) rfl rfl ?_
  refine r_iconst (v := 0) C dX12_sureAt_5 (by decide) ?_
  refine r_istore (lv' := [(5, .int (0 : Int32)), (4, .int (0 : Int32)), (3, .int (0 : Int32)), (0, .ref v0), (1, .int v1), (2, .int v2)]) C dX12_sureAt_6 (by decide) rfl rfl ?_
  obtain ⟨y1, y2, hl8, hf0⟩ := ob2 hf0
  have L8 : ∀ (n : Nat) (t3 : Int32) (t4 : Int32) (t5 : Int32), whileL n (fun q : Int32 × Int32 × Int32 => f_X12_sureAt_b8 h v0 v1 v2 q.1 q.2.1 q.2.2) (t3, t4, t5) = some (y1, y2) → gW p l e (rmO 3 0 0) s m args below meth c (MQ below (eQ D cA B Hb h (some (.int out))) args s 0 0 (fun q => B ≤ q)) D cA B Hb 6 h 8 [(0, .ref v0), (1, .int v1), (2, .int v2), (3, .int t3), (4, .int t4), (5, .int t5)] [] 0 0 := by
    intro n
    induction n with
    | zero => intro t3 t4 t5 hz; cases hz
    | succ n ih8 =>
      intro t3 t4 t5 hz
      obtain ⟨x8, hf1, hk8⟩ := wl hz
      replace hf1 : f_X12_sureAt_b8 h v0 v1 v2 t3 t4 t5 = some x8 := hf1
      unfold f_X12_sureAt_b8 at hf1
      have J74 : ∀ (t6 : Int32) (t7 : Int32) (t8 : Int32), f_X12_sureAt_j74 h v0 v1 v2 t6 t7 t8 = some x8 → gW p l e (rmO 3 0 0) s m args below meth c (MQ below (eQ D cA B Hb h (some (.int out))) args s 0 0 (fun q => B ≤ q)) D cA B Hb 6 h 74 [(0, .ref v0), (1, .int v1), (2, .int v2), (3, .int t6), (4, .int t7), (5, .int t8)] [] 0 0 := by
        intro t6 t7 t8 hf1
        unfold f_X12_sureAt_j74 at hf1
        obtain ⟨t9, e10, hf1⟩ := ob hf1
        refine r_iinc (lv' := [(5, .int t9), (0, .ref v0), (1, .int v1), (2, .int v2), (3, .int t6), (4, .int t7)]) C dX12_sureAt_74 rfl e10 (by decide) rfl ?_
        refine r_goto (tgt := 8) C dX12_sureAt_77 (by decide) ?_
        obtain rfl := so hf1
        refine r_subk [1, 2, 3, 4, 5, 0] (lv' := [(0, .ref v0), (1, .int v1), (2, .int v2), (3, .int t6), (4, .int t7), (5, .int t9)]) rfl ?_
        exact ih8 t6 t7 t9 hk8
      have J72 : ∀ (t11 : Int32) (t12 : Int32) (t13 : Int32), f_X12_sureAt_j72 h v0 v1 v2 t11 t12 t13 = some x8 → gW p l e (rmO 3 0 0) s m args below meth c (MQ below (eQ D cA B Hb h (some (.int out))) args s 0 0 (fun q => B ≤ q)) D cA B Hb 6 h 72 [(0, .ref v0), (1, .int v1), (2, .int v2), (3, .int t11), (5, .int t12)] [.int t13] 0 0 := by
        intro t11 t12 t13 hf1
        unfold f_X12_sureAt_j72 at hf1
        refine r_istore (lv' := [(4, .int t13), (0, .ref v0), (1, .int v1), (2, .int v2), (3, .int t11), (5, .int t12)]) C dX12_sureAt_72 (by decide) rfl rfl ?_
        refine r_subk [1, 2, 3, 4, 0, 5] (lv' := [(0, .ref v0), (1, .int v1), (2, .int v2), (3, .int t11), (4, .int t13), (5, .int t12)]) rfl ?_
        exact J74 t11 t13 t12 hf1
      have J67 : ∀ (t14 : Int32) (t15 : Int32), f_X12_sureAt_j67 h v0 v1 v2 t14 t15 = some x8 → gW p l e (rmO 3 0 0) s m args below meth c (MQ below (eQ D cA B Hb h (some (.int out))) args s 0 0 (fun q => B ≤ q)) D cA B Hb 6 h 67 [(0, .ref v0), (1, .int v1), (2, .int v2), (3, .int t14), (5, .int t15)] [] 0 0 := by
        intro t14 t15 hf1
        unfold f_X12_sureAt_j67 at hf1
        refine r_iconst (v := 1) C dX12_sureAt_67 (by decide) ?_
        refine r_goto (tgt := 72) C dX12_sureAt_68 (by decide) ?_
        exact J72 t14 t15 (1 : Int32) hf1
      have J51 : ∀ (t16 : Int32) (t17 : Int32) (t18 : Int32), f_X12_sureAt_j51 h v0 v1 v2 t16 t17 t18 = some x8 → gW p l e (rmO 3 0 0) s m args below meth c (MQ below (eQ D cA B Hb h (some (.int out))) args s 0 0 (fun q => B ≤ q)) D cA B Hb 6 h 51 [(0, .ref v0), (1, .int v1), (2, .int v2), (4, .int t16), (5, .int t17)] [.int t18] 0 0 := by
        intro t16 t17 t18 hf1
        unfold f_X12_sureAt_j51 at hf1
        refine r_istore_n (lv' := [(3, .int t18), (0, .ref v0), (1, .int v1), (2, .int v2), (4, .int t16), (5, .int t17)]) C dX12_sureAt_51 (by decide) rfl rfl ?_
        refine r_iload C dX12_sureAt_52 rfl ?_
        refine r_ifne (tgt := 67) C dX12_sureAt_54 (by decide) (fun c19 => ?_) (fun c19 => ?_)
        · rw [if_neg c19] at hf1
          refine r_subk [1, 2, 3, 0, 5] (lv' := [(0, .ref v0), (1, .int v1), (2, .int v2), (3, .int t18), (5, .int t17)]) rfl ?_
          exact J67 t18 t17 hf1
        · rw [if_pos c19] at hf1
          refine r_aload_n C dX12_sureAt_57 rfl ?_
          refine r_iload_n C dX12_sureAt_58 rfl ?_
          refine r_iload C dX12_sureAt_59 rfl ?_
          obtain ⟨u21, e20, hf1⟩ := ob hf1
          obtain ⟨t22, e23, hf1⟩ := ob hf1
          refine r_cV (ci := 12) (rest := []) (st2 := [.int t22]) C (s_X12_isIn e23) mk_X12_isIn rfl (ck_k e20) (by decide) im_X12_isIn sl_X12_isIn lk_X12_337 rfl rfl rfl dX12_sureAt_61 (Nat.le_of_ble_eq_true rfl) ⟨Nat.le_of_ble_eq_true rfl, Nat.le_of_ble_eq_true rfl⟩ ⟨Nat.le_of_ble_eq_true rfl, Nat.le_of_ble_eq_true rfl⟩ ?_
          refine r_ifne (tgt := 71) C dX12_sureAt_64 (by decide) (fun c24 => ?_) (fun c24 => ?_)
          · rw [if_neg c24] at hf1
            refine r_iconst (v := 0) C dX12_sureAt_71 (by decide) ?_
            refine r_subk [1, 2, 3, 0, 5] (lv' := [(0, .ref v0), (1, .int v1), (2, .int v2), (3, .int t18), (5, .int t17)]) rfl ?_
            exact J72 t18 t17 (0 : Int32) hf1
          · rw [if_pos c24] at hf1
            refine r_subk [1, 2, 3, 0, 5] (lv' := [(0, .ref v0), (1, .int v1), (2, .int v2), (3, .int t18), (5, .int t17)]) rfl ?_
            exact J67 t18 t17 hf1
      have J46 : ∀ (t25 : Int32) (t26 : Int32), f_X12_sureAt_j46 h v0 v1 v2 t25 t26 = some x8 → gW p l e (rmO 3 0 0) s m args below meth c (MQ below (eQ D cA B Hb h (some (.int out))) args s 0 0 (fun q => B ≤ q)) D cA B Hb 6 h 46 [(0, .ref v0), (1, .int v1), (2, .int v2), (4, .int t25), (5, .int t26)] [] 0 0 := by
        intro t25 t26 hf1
        unfold f_X12_sureAt_j46 at hf1
        refine r_iconst (v := 1) C dX12_sureAt_46 (by decide) ?_
        refine r_goto (tgt := 51) C dX12_sureAt_47 (by decide) ?_
        exact J51 t25 t26 (1 : Int32) hf1
      refine r_iload C dX12_sureAt_8 rfl ?_
      refine r_aload_n C dX12_sureAt_10 rfl ?_
      obtain ⟨t27, e28, hf1⟩ := ob hf1
      refine r_getR C fk_X12_7 rfl dX12_sureAt_11 e28 ?_
      refine r_iconst (v := 2) C dX12_sureAt_14 (by decide) ?_
      obtain ⟨t29, e30, hf1⟩ := ob hf1
      refine r_ldI C dX12_sureAt_15 e30 ?_
      refine r_icmp_ge (tgt := 80) C dX12_sureAt_16 (by decide) (fun c31 => ?_) (fun c31 => ?_)
      · rw [if_pos c31] at hf1
        obtain rfl := so hf1
        obtain ⟨rfl, rfl⟩ := so2 (show some (t3, t4) = some (y1, y2) from hk8)
        refine r_iload_n C dX12_sureAt_80 rfl ?_
        refine r_iload C dX12_sureAt_81 rfl ?_
        refine r_icmp_ne (tgt := 90) C dX12_sureAt_83 (by decide) (fun c32 => ?_) (fun c32 => ?_)
        · rw [if_neg c32] at hf0
          refine r_iload_n C dX12_sureAt_90 rfl ?_
          refine r_ifeq (tgt := 98) C dX12_sureAt_91 (by decide) (fun c33 => ?_) (fun c33 => ?_)
          · rw [if_pos c33] at hf0
            refine r_iconst (v := 0) C dX12_sureAt_98 (by decide) ?_
            obtain rfl := so hf0
            exact r_iret C dX12_sureAt_99
          · rw [if_neg c33] at hf0
            refine r_iconst (v := 1) C dX12_sureAt_94 (by decide) ?_
            refine r_goto (tgt := 99) C dX12_sureAt_95 (by decide) ?_
            obtain rfl := so hf0
            exact r_iret C dX12_sureAt_99
        · rw [if_pos c32] at hf0
          refine r_iconst (v := -1) C dX12_sureAt_86 (by decide) ?_
          refine r_goto (tgt := 99) C dX12_sureAt_87 (by decide) ?_
          obtain rfl := so hf0
          exact r_iret C dX12_sureAt_99
      · rw [if_neg c31] at hf1
        refine r_aload_n C dX12_sureAt_19 rfl ?_
        refine r_iload_n C dX12_sureAt_20 rfl ?_
        refine r_iload C dX12_sureAt_21 rfl ?_
        obtain ⟨u35, e34, hf1⟩ := ob hf1
        obtain ⟨t36, e37, hf1⟩ := ob hf1
        refine r_cV (ci := 12) (rest := []) (st2 := [.int t36]) C (s_X12_isLeftAt e37) mk_X12_isLeftAt rfl (ck_k e34) (by decide) im_X12_isLeftAt sl_X12_isLeftAt lk_X12_381 rfl rfl rfl dX12_sureAt_23 (Nat.le_of_ble_eq_true rfl) ⟨Nat.le_of_ble_eq_true rfl, Nat.le_of_ble_eq_true rfl⟩ ⟨Nat.le_of_ble_eq_true rfl, Nat.le_of_ble_eq_true rfl⟩ ?_
        refine r_ifne (tgt := 32) C dX12_sureAt_26 (by decide) (fun c38 => ?_) (fun c38 => ?_)
        · rw [if_neg c38] at hf1
          refine r_iload_n C dX12_sureAt_32 rfl ?_
          refine r_ifne (tgt := 46) C dX12_sureAt_33 (by decide) (fun c39 => ?_) (fun c39 => ?_)
          · rw [if_neg c39] at hf1
            refine r_subk [0, 1, 2, 4, 5] (lv' := [(0, .ref v0), (1, .int v1), (2, .int v2), (4, .int t4), (5, .int t5)]) rfl ?_
            exact J46 t4 t5 hf1
          · rw [if_pos c39] at hf1
            refine r_aload_n C dX12_sureAt_36 rfl ?_
            refine r_iload_n C dX12_sureAt_37 rfl ?_
            refine r_iload C dX12_sureAt_38 rfl ?_
            obtain ⟨u41, e40, hf1⟩ := ob hf1
            obtain ⟨t42, e43, hf1⟩ := ob hf1
            refine r_cV (ci := 12) (rest := []) (st2 := [.int t42]) C (s_X12_isIn e43) mk_X12_isIn rfl (ck_k e40) (by decide) im_X12_isIn sl_X12_isIn lk_X12_337 rfl rfl rfl dX12_sureAt_40 (Nat.le_of_ble_eq_true rfl) ⟨Nat.le_of_ble_eq_true rfl, Nat.le_of_ble_eq_true rfl⟩ ⟨Nat.le_of_ble_eq_true rfl, Nat.le_of_ble_eq_true rfl⟩ ?_
            refine r_ifeq (tgt := 50) C dX12_sureAt_43 (by decide) (fun c44 => ?_) (fun c44 => ?_)
            · rw [if_pos c44] at hf1
              refine r_iconst (v := 0) C dX12_sureAt_50 (by decide) ?_
              refine r_subk [0, 1, 2, 4, 5] (lv' := [(0, .ref v0), (1, .int v1), (2, .int v2), (4, .int t4), (5, .int t5)]) rfl ?_
              exact J51 t4 t5 (0 : Int32) hf1
            · rw [if_neg c44] at hf1
              refine r_subk [0, 1, 2, 4, 5] (lv' := [(0, .ref v0), (1, .int v1), (2, .int v2), (4, .int t4), (5, .int t5)]) rfl ?_
              exact J46 t4 t5 hf1
        · rw [if_pos c38] at hf1
          refine r_goto (tgt := 74) C dX12_sureAt_29 (by decide) ?_
          exact J74 t3 t4 t5 hf1
  refine r_subk [3, 4, 5, 2, 1, 0] (lv' := [(0, .ref v0), (1, .int v1), (2, .int v2), (3, .int (0 : Int32)), (4, .int (0 : Int32)), (5, .int (0 : Int32))]) rfl ?_
  exact L8 wN (0 : Int32) (0 : Int32) (0 : Int32) hl8
def f_X12_hears (h : aH) (v0 : Nat) (v1 : Int32) (v2 : Int32) (v3 : Int32) : Option (aH) := (gR h 12 v0 0).bind fun t1 => (lI h t1 (6 : Int32)).bind fun t2 => (some ((100 : Int32) + ((4 : Int32) * t2))).bind fun t3 => (gR h 12 v0 0).bind fun t4 => (sI h t4 t3 v1).bind fun h5 => (gR h5 12 v0 0).bind fun t6 => (sI h5 t6 (t3 + (1 : Int32)) v2).bind fun h7 => (gR h7 12 v0 0).bind fun t8 => (sI h7 t8 (t3 + (2 : Int32)) v3).bind fun h9 => (gR h9 12 v0 0).bind fun t10 => (gR h9 12 v0 0).bind fun t11 => (lI h9 t11 (5 : Int32)).bind fun t12 => (sI h9 t10 (t3 + (3 : Int32)) t12).bind fun h13 => (gR h13 12 v0 0).bind fun t14 => (lI h13 t14 (6 : Int32)).bind fun t15 => (sI h13 t14 (6 : Int32) (t15 + (1 : Int32))).bind fun h16 => some h16
theorem s_X12_hears {h : aH} {v0 : Nat} {v1 : Int32} {v2 : Int32} {v3 : Int32} {out : aH} (hf0 : f_X12_hears h v0 v1 v2 v3 = some out) : EV 0 yX12_hears cX12_hears 5 none h [.ref v0, .int v1, .int v2, .int v3] none out 0 0 := by
  refine EV.of (own := RX12) (lv0 := [(0, .ref v0), (1, .int v1), (2, .int v2), (3, .int v3)]) (by decide +kernel) rfl rfl (Nat.le_of_ble_eq_true rfl) ?_
  intro p l e s m args below meth c D cA B Hb C hin
  unfold f_X12_hears at hf0
  refine r_bipush (v := 100) C dX12_hears_0 (by decide) ?_
  refine r_iconst (v := 4) C dX12_hears_2 (by decide) ?_
  refine r_aload_n C dX12_hears_3 rfl ?_
  obtain ⟨t1, e2, hf0⟩ := ob hf0
  refine r_getR C fk_X12_7 rfl dX12_hears_4 e2 ?_
  refine r_bipush (v := 6) C dX12_hears_7 (by decide) ?_
  obtain ⟨t3, e4, hf0⟩ := ob hf0
  refine r_ldI C dX12_hears_9 e4 ?_
  refine r_imul C dX12_hears_10 ?_
  refine r_iadd C dX12_hears_11 ?_
  obtain ⟨t5, e6, hf0⟩ := ob hf0
  refine r_istore (lv' := [(4, .int t5), (0, .ref v0), (1, .int v1), (2, .int v2), (3, .int v3)]) C dX12_hears_12 (by decide) e6 rfl ?_
  refine r_aload_n C dX12_hears_14 rfl ?_
  obtain ⟨t7, e8, hf0⟩ := ob hf0
  refine r_getR C fk_X12_7 rfl dX12_hears_15 e8 ?_
  refine r_iload C dX12_hears_18 rfl ?_
  refine r_iload_n C dX12_hears_20 rfl ?_
  obtain ⟨h9, e10, hf0⟩ := ob hf0
  refine r_stI C dX12_hears_21 e10 ?_
  refine r_aload_n C dX12_hears_22 rfl ?_
  obtain ⟨t11, e12, hf0⟩ := ob hf0
  refine r_getR C fk_X12_7 rfl dX12_hears_23 e12 ?_
  refine r_iload C dX12_hears_26 rfl ?_
  refine r_iconst (v := 1) C dX12_hears_28 (by decide) ?_
  refine r_iadd C dX12_hears_29 ?_
  refine r_iload_n C dX12_hears_30 rfl ?_
  obtain ⟨h13, e14, hf0⟩ := ob hf0
  refine r_stI C dX12_hears_31 e14 ?_
  refine r_aload_n C dX12_hears_32 rfl ?_
  obtain ⟨t15, e16, hf0⟩ := ob hf0
  refine r_getR C fk_X12_7 rfl dX12_hears_33 e16 ?_
  refine r_iload C dX12_hears_36 rfl ?_
  refine r_iconst (v := 2) C dX12_hears_38 (by decide) ?_
  refine r_iadd C dX12_hears_39 ?_
  refine r_iload_n C dX12_hears_40 rfl ?_
  obtain ⟨h17, e18, hf0⟩ := ob hf0
  refine r_stI C dX12_hears_41 e18 ?_
  refine r_aload_n C dX12_hears_42 rfl ?_
  obtain ⟨t19, e20, hf0⟩ := ob hf0
  refine r_getR C fk_X12_7 rfl dX12_hears_43 e20 ?_
  refine r_iload C dX12_hears_46 rfl ?_
  refine r_iconst (v := 3) C dX12_hears_48 (by decide) ?_
  refine r_iadd C dX12_hears_49 ?_
  refine r_aload_n C dX12_hears_50 rfl ?_
  obtain ⟨t21, e22, hf0⟩ := ob hf0
  refine r_getR C fk_X12_7 rfl dX12_hears_51 e22 ?_
  refine r_iconst (v := 5) C dX12_hears_54 (by decide) ?_
  obtain ⟨t23, e24, hf0⟩ := ob hf0
  refine r_ldI C dX12_hears_55 e24 ?_
  obtain ⟨h25, e26, hf0⟩ := ob hf0
  refine r_stI C dX12_hears_56 e26 ?_
  refine r_aload_n C dX12_hears_57 rfl ?_
  obtain ⟨t27, e28, hf0⟩ := ob hf0
  refine r_getR C fk_X12_7 rfl dX12_hears_58 e28 ?_
  refine r_bipush (v := 6) C dX12_hears_61 (by decide) ?_
  refine r_dup2 C dX12_hears_63 rfl rfl ?_
  obtain ⟨t29, e30, hf0⟩ := ob hf0
  refine r_ldI C dX12_hears_64 e30 ?_
  refine r_iconst (v := 1) C dX12_hears_65 (by decide) ?_
  refine r_iadd C dX12_hears_66 ?_
  obtain ⟨h31, e32, hf0⟩ := ob hf0
  refine r_stI C dX12_hears_67 e32 ?_
  obtain rfl := so hf0
  exact r_vret C dX12_hears_68
def f_X12_hear_j32 (h : aH) (v0 : Nat) : Option (Int32 × aH) := (ck h 12 v0).bind fun _ => bd2 (f_X12_is h v0 (1 : Int32)) fun t1 h2 => (rZ t1).bind fun t3 => some (t3, h2)
def f_X12_hear_b56 (h : aH) (v0 : Nat) (v1 : Int32) (v2 : Int32) (v3 : Int32) (v4 : Int32) : Option ((Int32) ⊕ ((Unit) ⊕ (Unit))) := (gR h 12 v0 0).bind fun t9 => (lI h t9 (6 : Int32)).bind fun t10 => if t10 ≤ v4 then some (.inr (.inr ())) else (ck h 12 v0).bind fun _ => (f_X12_ofHeard h v0 v4 (1 : Int32)).bind fun t11 => if t11 = v2 then some (.inr (.inl ())) else (some (v4 + (1 : Int32))).bind fun t12 => some (.inl t12)
def f_X12_hear_l56 (h : aH) (v0 : Nat) (v1 : Int32) (v2 : Int32) (v3 : Int32) (v4 : Int32) : Option ((Unit) ⊕ (Unit)) := whileL wN (fun q : Int32 => f_X12_hear_b56 h v0 v1 v2 v3 q) v4
def f_X12_hear (h : aH) (v0 : Nat) (v1 : Int32) (v2 : Int32) (v3 : Int32) : Option (Int32 × aH) := (ck h 12 v0).bind fun _ => (f_X12_isWitness h v0 v1).bind fun t4 => if t4 = 0 then f_X12_hear_j32 h v0 else (ck h 12 v0).bind fun _ => (f_X12_isQuestion h v0 v2).bind fun t5 => if t5 = 0 then f_X12_hear_j32 h v0 else if v3 < 0 then f_X12_hear_j32 h v0 else (gR h 12 v0 0).bind fun t6 => (lI h t6 (3 : Int32)).bind fun t7 => if v3 < ((2 : Int32) * t7) then (ck h 12 v0).bind fun _ => (f_X12_putToday h v0).bind fun t8 => if t8 = (9 : Int32) then (ck h 12 v0).bind fun _ => bd2 (f_X12_is h v0 (4 : Int32)) fun t20 h21 => (rZ t20).bind fun t22 => some (t22, h21) else (f_X12_hear_l56 h v0 v1 v2 v3 (0 : Int32)).bind fun e => match e with | .inl _ => (ck h 12 v0).bind fun _ => bd2 (f_X12_is h v0 (7 : Int32)) fun t13 h14 => (rZ t13).bind fun t15 => some (t15, h14) | .inr _ => (ck h 12 v0).bind fun _ => (f_X12_hears h v0 v1 v2 v3).bind fun h16 => (ck h16 12 v0).bind fun _ => bd2 (f_X12_is h16 v0 (0 : Int32)) fun t17 h18 => (rZ t17).bind fun t19 => some (t19, h18) else f_X12_hear_j32 h v0
theorem s_X12_hear {h : aH} {v0 : Nat} {v1 : Int32} {v2 : Int32} {v3 : Int32} {out : Int32 × aH} (hf0 : f_X12_hear h v0 v1 v2 v3 = some out) : EV 2 yX12_hear cX12_hear 5 (some .boolean) h [.ref v0, .int v1, .int v2, .int v3] (some (.int out.1)) out.2 0 0 := by
  refine EV.of (own := RX12) (lv0 := [(0, .ref v0), (1, .int v1), (2, .int v2), (3, .int v3)]) (by decide +kernel) rfl rfl (Nat.le_of_ble_eq_true rfl) ?_
  intro p l e s m args below meth c D cA B Hb C hin
  unfold f_X12_hear at hf0
  have J32 : ∀ (h1 : aH) (t2 : Nat), f_X12_hear_j32 h1 t2 = some out → gW p l e (rmO 2 0 0) s m args below meth c (MQ below (eQ D cA B Hb out.2 (some (.int out.1))) args s 0 0 (fun q => B ≤ q)) D cA B Hb 5 h1 32 [(0, .ref t2)] [] 0 0 := by
    intro h1 t2 hf0
    unfold f_X12_hear_j32 at hf0
    refine r_aload_n C dX12_hear_32 rfl ?_
    refine r_iconst (v := 1) C dX12_hear_33 (by decide) ?_
    obtain ⟨u4, e3, hf0⟩ := ob hf0
    obtain ⟨t5, h6, e7, hf0⟩ := ob2 hf0
    refine r_cV (ci := 12) (rest := []) (st2 := [.int t5]) C (s_X12_is e7) mk_X12_is rfl (ck_k e3) (by decide) im_X12_is sl_X12_is lk_X12_109 rfl rfl rfl dX12_hear_34 (Nat.le_of_ble_eq_true rfl) ⟨Nat.le_of_ble_eq_true rfl, Nat.le_of_ble_eq_true rfl⟩ ⟨Nat.le_of_ble_eq_true rfl, Nat.le_of_ble_eq_true rfl⟩ ?_
    obtain ⟨t8, e9, hf0⟩ := ob hf0
    obtain ⟨rfl, e9z⟩ := rZ_k e9
    obtain rfl := so hf0
    exact r_zret C dX12_hear_37 e9z
  refine r_aload_n C dX12_hear_0 rfl ?_
  refine r_iload_n C dX12_hear_1 rfl ?_
  obtain ⟨u11, e10, hf0⟩ := ob hf0
  obtain ⟨t12, e13, hf0⟩ := ob hf0
  refine r_cV (ci := 12) (rest := []) (st2 := [.int t12]) C (s_X12_isWitness e13) mk_X12_isWitness rfl (ck_k e10) (by decide) im_X12_isWitness sl_X12_isWitness lk_X12_340 rfl rfl rfl dX12_hear_2 (Nat.le_of_ble_eq_true rfl) ⟨Nat.le_of_ble_eq_true rfl, Nat.le_of_ble_eq_true rfl⟩ ⟨Nat.le_of_ble_eq_true rfl, Nat.le_of_ble_eq_true rfl⟩ ?_
  refine r_ifeq (tgt := 32) C dX12_hear_5 (by decide) (fun c14 => ?_) (fun c14 => ?_)
  · rw [if_pos c14] at hf0
    refine r_subk [0] (lv' := [(0, .ref v0)]) rfl ?_
    exact J32 h v0 hf0
  · rw [if_neg c14] at hf0
    refine r_aload_n C dX12_hear_8 rfl ?_
    refine r_iload_n C dX12_hear_9 rfl ?_
    obtain ⟨u16, e15, hf0⟩ := ob hf0
    obtain ⟨t17, e18, hf0⟩ := ob hf0
    refine r_cV (ci := 12) (rest := []) (st2 := [.int t17]) C (s_X12_isQuestion e18) mk_X12_isQuestion rfl (ck_k e15) (by decide) im_X12_isQuestion sl_X12_isQuestion lk_X12_334 rfl rfl rfl dX12_hear_10 (Nat.le_of_ble_eq_true rfl) ⟨Nat.le_of_ble_eq_true rfl, Nat.le_of_ble_eq_true rfl⟩ ⟨Nat.le_of_ble_eq_true rfl, Nat.le_of_ble_eq_true rfl⟩ ?_
    refine r_ifeq (tgt := 32) C dX12_hear_13 (by decide) (fun c19 => ?_) (fun c19 => ?_)
    · rw [if_pos c19] at hf0
      refine r_subk [0] (lv' := [(0, .ref v0)]) rfl ?_
      exact J32 h v0 hf0
    · rw [if_neg c19] at hf0
      refine r_iload_n C dX12_hear_16 rfl ?_
      refine r_iflt (tgt := 32) C dX12_hear_17 (by decide) (fun c20 => ?_) (fun c20 => ?_)
      · rw [if_pos c20] at hf0
        refine r_subk [0] (lv' := [(0, .ref v0)]) rfl ?_
        exact J32 h v0 hf0
      · rw [if_neg c20] at hf0
        refine r_iload_n C dX12_hear_20 rfl ?_
        refine r_iconst (v := 2) C dX12_hear_21 (by decide) ?_
        refine r_aload_n C dX12_hear_22 rfl ?_
        obtain ⟨t21, e22, hf0⟩ := ob hf0
        refine r_getR C fk_X12_7 rfl dX12_hear_23 e22 ?_
        refine r_iconst (v := 3) C dX12_hear_26 (by decide) ?_
        obtain ⟨t23, e24, hf0⟩ := ob hf0
        refine r_ldI C dX12_hear_27 e24 ?_
        refine r_imul C dX12_hear_28 ?_
        refine r_icmp_lt (tgt := 38) C dX12_hear_29 (by decide) (fun c25 => ?_) (fun c25 => ?_)
        · rw [if_pos c25] at hf0
          refine r_aload_n C dX12_hear_38 rfl ?_
          obtain ⟨u27, e26, hf0⟩ := ob hf0
          obtain ⟨t28, e29, hf0⟩ := ob hf0
          refine r_cV (ci := 12) (rest := []) (st2 := [.int t28]) C (s_X12_putToday e29) mk_X12_putToday rfl (ck_k e26) (by decide) im_X12_putToday sl_X12_putToday lk_X12_325 rfl rfl rfl dX12_hear_39 (Nat.le_of_ble_eq_true rfl) ⟨Nat.le_of_ble_eq_true rfl, Nat.le_of_ble_eq_true rfl⟩ ⟨Nat.le_of_ble_eq_true rfl, Nat.le_of_ble_eq_true rfl⟩ ?_
          refine r_bipush (v := 9) C dX12_hear_42 (by decide) ?_
          refine r_icmp_ne (tgt := 53) C dX12_hear_44 (by decide) (fun c30 => ?_) (fun c30 => ?_)
          · rw [if_neg c30] at hf0
            refine r_iconst (v := 0) C dX12_hear_53 (by decide) ?_
            refine r_istore (lv' := [(4, .int (0 : Int32)), (0, .ref v0), (1, .int v1), (2, .int v2), (3, .int v3)]) C dX12_hear_54 (by decide) rfl rfl ?_
            obtain ⟨y31, hl56, hf0⟩ := ob hf0
            have L56 : ∀ (n : Nat) (t32 : Int32), whileL n (fun q : Int32 => f_X12_hear_b56 h v0 v1 v2 v3 q) t32 = some y31 → gW p l e (rmO 2 0 0) s m args below meth c (MQ below (eQ D cA B Hb out.2 (some (.int out.1))) args s 0 0 (fun q => B ≤ q)) D cA B Hb 5 h 56 [(0, .ref v0), (1, .int v1), (2, .int v2), (3, .int v3), (4, .int t32)] [] 0 0 := by
              intro n
              induction n with
              | zero => intro t32 hz; cases hz
              | succ n ih56 =>
                intro t32 hz
                obtain ⟨x56, hf1, hk56⟩ := wl hz
                replace hf1 : f_X12_hear_b56 h v0 v1 v2 v3 t32 = some x56 := hf1
                unfold f_X12_hear_b56 at hf1
                refine r_iload C dX12_hear_56 rfl ?_
                refine r_aload_n C dX12_hear_58 rfl ?_
                obtain ⟨t33, e34, hf1⟩ := ob hf1
                refine r_getR C fk_X12_7 rfl dX12_hear_59 e34 ?_
                refine r_bipush (v := 6) C dX12_hear_62 (by decide) ?_
                obtain ⟨t35, e36, hf1⟩ := ob hf1
                refine r_ldI C dX12_hear_64 e36 ?_
                refine r_icmp_ge (tgt := 92) C dX12_hear_65 (by decide) (fun c37 => ?_) (fun c37 => ?_)
                · rw [if_pos c37] at hf1
                  obtain rfl := so hf1
                  obtain rfl := so (show some (.inr () : (Unit) ⊕ (Unit)) = some y31 from hk56)
                  dsimp only at hf0
                  refine r_aload_n C dX12_hear_92 rfl ?_
                  refine r_iload_n C dX12_hear_93 rfl ?_
                  refine r_iload_n C dX12_hear_94 rfl ?_
                  refine r_iload_n C dX12_hear_95 rfl ?_
                  obtain ⟨u39, e38, hf0⟩ := ob hf0
                  obtain ⟨h40, e41, hf0⟩ := ob hf0
                  refine r_cV (ci := 12) (rest := []) (st2 := []) C (s_X12_hears e41) mk_X12_hears rfl (ck_k e38) (by decide) im_X12_hears sl_X12_hears lk_X12_384 rfl rfl rfl dX12_hear_96 (Nat.le_of_ble_eq_true rfl) ⟨Nat.le_of_ble_eq_true rfl, Nat.le_of_ble_eq_true rfl⟩ ⟨Nat.le_of_ble_eq_true rfl, Nat.le_of_ble_eq_true rfl⟩ ?_
                  refine r_aload_n C dX12_hear_99 rfl ?_
                  refine r_iconst (v := 0) C dX12_hear_100 (by decide) ?_
                  obtain ⟨u43, e42, hf0⟩ := ob hf0
                  obtain ⟨t44, h45, e46, hf0⟩ := ob2 hf0
                  refine r_cV (ci := 12) (rest := []) (st2 := [.int t44]) C (s_X12_is e46) mk_X12_is rfl (ck_k e42) (by decide) im_X12_is sl_X12_is lk_X12_109 rfl rfl rfl dX12_hear_101 (Nat.le_of_ble_eq_true rfl) ⟨Nat.le_of_ble_eq_true rfl, Nat.le_of_ble_eq_true rfl⟩ ⟨Nat.le_of_ble_eq_true rfl, Nat.le_of_ble_eq_true rfl⟩ ?_
                  obtain ⟨t47, e48, hf0⟩ := ob hf0
                  obtain ⟨rfl, e48z⟩ := rZ_k e48
                  obtain rfl := so hf0
                  exact r_zret C dX12_hear_104 e48z
                · rw [if_neg c37] at hf1
                  refine r_aload_n C dX12_hear_68 rfl ?_
                  refine r_iload C dX12_hear_69 rfl ?_
                  refine r_iconst (v := 1) C dX12_hear_71 (by decide) ?_
                  obtain ⟨u50, e49, hf1⟩ := ob hf1
                  obtain ⟨t51, e52, hf1⟩ := ob hf1
                  refine r_cV (ci := 12) (rest := []) (st2 := [.int t51]) C (s_X12_ofHeard e52) mk_X12_ofHeard rfl (ck_k e49) (by decide) im_X12_ofHeard sl_X12_ofHeard lk_X12_322 rfl rfl rfl dX12_hear_72 (Nat.le_of_ble_eq_true rfl) ⟨Nat.le_of_ble_eq_true rfl, Nat.le_of_ble_eq_true rfl⟩ ⟨Nat.le_of_ble_eq_true rfl, Nat.le_of_ble_eq_true rfl⟩ ?_
                  refine r_iload_n C dX12_hear_75 rfl ?_
                  refine r_icmp_ne (tgt := 86) C dX12_hear_76 (by decide) (fun c53 => ?_) (fun c53 => ?_)
                  · rw [if_neg c53] at hf1
                    obtain ⟨t54, e55, hf1⟩ := ob hf1
                    refine r_iinc (lv' := [(4, .int t54), (0, .ref v0), (1, .int v1), (2, .int v2), (3, .int v3)]) C dX12_hear_86 rfl e55 (by decide) rfl ?_
                    refine r_goto (tgt := 56) C dX12_hear_89 (by decide) ?_
                    obtain rfl := so hf1
                    refine r_subk [1, 2, 3, 4, 0] (lv' := [(0, .ref v0), (1, .int v1), (2, .int v2), (3, .int v3), (4, .int t54)]) rfl ?_
                    exact ih56 t54 hk56
                  · rw [if_pos c53] at hf1
                    obtain rfl := so hf1
                    obtain rfl := so (show some (.inl () : (Unit) ⊕ (Unit)) = some y31 from hk56)
                    dsimp only at hf0
                    refine r_aload_n C dX12_hear_79 rfl ?_
                    refine r_bipush (v := 7) C dX12_hear_80 (by decide) ?_
                    obtain ⟨u57, e56, hf0⟩ := ob hf0
                    obtain ⟨t58, h59, e60, hf0⟩ := ob2 hf0
                    refine r_cV (ci := 12) (rest := []) (st2 := [.int t58]) C (s_X12_is e60) mk_X12_is rfl (ck_k e56) (by decide) im_X12_is sl_X12_is lk_X12_109 rfl rfl rfl dX12_hear_82 (Nat.le_of_ble_eq_true rfl) ⟨Nat.le_of_ble_eq_true rfl, Nat.le_of_ble_eq_true rfl⟩ ⟨Nat.le_of_ble_eq_true rfl, Nat.le_of_ble_eq_true rfl⟩ ?_
                    obtain ⟨t61, e62, hf0⟩ := ob hf0
                    obtain ⟨rfl, e62z⟩ := rZ_k e62
                    obtain rfl := so hf0
                    exact r_zret C dX12_hear_85 e62z
            refine r_subk [1, 2, 3, 4, 0] (lv' := [(0, .ref v0), (1, .int v1), (2, .int v2), (3, .int v3), (4, .int (0 : Int32))]) rfl ?_
            exact L56 wN (0 : Int32) hl56
          · rw [if_pos c30] at hf0
            refine r_aload_n C dX12_hear_47 rfl ?_
            refine r_iconst (v := 4) C dX12_hear_48 (by decide) ?_
            obtain ⟨u64, e63, hf0⟩ := ob hf0
            obtain ⟨t65, h66, e67, hf0⟩ := ob2 hf0
            refine r_cV (ci := 12) (rest := []) (st2 := [.int t65]) C (s_X12_is e67) mk_X12_is rfl (ck_k e63) (by decide) im_X12_is sl_X12_is lk_X12_109 rfl rfl rfl dX12_hear_49 (Nat.le_of_ble_eq_true rfl) ⟨Nat.le_of_ble_eq_true rfl, Nat.le_of_ble_eq_true rfl⟩ ⟨Nat.le_of_ble_eq_true rfl, Nat.le_of_ble_eq_true rfl⟩ ?_
            obtain ⟨t68, e69, hf0⟩ := ob hf0
            obtain ⟨rfl, e69z⟩ := rZ_k e69
            obtain rfl := so hf0
            exact r_zret C dX12_hear_52 e69z
        · rw [if_neg c25] at hf0
          refine r_subk [0] (lv' := [(0, .ref v0)]) rfl ?_
          exact J32 h v0 hf0
def f_X12_unsay (h : aH) (v0 : Nat) : Option (Int32 × aH) := (gR h 12 v0 0).bind fun t1 => (lI h t1 (6 : Int32)).bind fun t2 => if t2 = 0 then (ck h 12 v0).bind fun _ => bd2 (f_X12_refuse h v0 (6 : Int32)) fun t10 h11 => some (t10, h11) else (gR h 12 v0 0).bind fun t3 => (lI h t3 (6 : Int32)).bind fun t4 => (sI h t3 (6 : Int32) (t4 - (1 : Int32))).bind fun h5 => (gR h5 12 v0 0).bind fun t6 => (lI h5 t6 (6 : Int32)).bind fun t7 => (ck h5 12 v0).bind fun _ => bd2 (f_X12_gives h5 v0 t7) fun t8 h9 => some (t8, h9)
theorem s_X12_unsay {h : aH} {v0 : Nat} {out : Int32 × aH} (hf0 : f_X12_unsay h v0 = some out) : EV 1 yX12_unsay cX12_unsay 1 (some .int) h [.ref v0] (some (.int out.1)) out.2 0 0 := by
  refine EV.of (own := RX12) (lv0 := [(0, .ref v0)]) (by decide +kernel) rfl rfl (Nat.le_of_ble_eq_true rfl) ?_
  intro p l e s m args below meth c D cA B Hb C hin
  unfold f_X12_unsay at hf0
  refine r_aload_n C dX12_unsay_0 rfl ?_
  obtain ⟨t1, e2, hf0⟩ := ob hf0
  refine r_getR C fk_X12_7 rfl dX12_unsay_1 e2 ?_
  refine r_bipush (v := 6) C dX12_unsay_4 (by decide) ?_
  obtain ⟨t3, e4, hf0⟩ := ob hf0
  refine r_ldI C dX12_unsay_6 e4 ?_
  refine r_ifne (tgt := 17) C dX12_unsay_7 (by decide) (fun c5 => ?_) (fun c5 => ?_)
  · rw [if_neg c5] at hf0
    refine r_aload_n C dX12_unsay_17 rfl ?_
    obtain ⟨t6, e7, hf0⟩ := ob hf0
    refine r_getR C fk_X12_7 rfl dX12_unsay_18 e7 ?_
    refine r_bipush (v := 6) C dX12_unsay_21 (by decide) ?_
    refine r_dup2 C dX12_unsay_23 rfl rfl ?_
    obtain ⟨t8, e9, hf0⟩ := ob hf0
    refine r_ldI C dX12_unsay_24 e9 ?_
    refine r_iconst (v := 1) C dX12_unsay_25 (by decide) ?_
    refine r_isub C dX12_unsay_26 ?_
    obtain ⟨h10, e11, hf0⟩ := ob hf0
    refine r_stI C dX12_unsay_27 e11 ?_
    refine r_aload_n C dX12_unsay_28 rfl ?_
    refine r_aload_n C dX12_unsay_29 rfl ?_
    obtain ⟨t12, e13, hf0⟩ := ob hf0
    refine r_getR C fk_X12_7 rfl dX12_unsay_30 e13 ?_
    refine r_bipush (v := 6) C dX12_unsay_33 (by decide) ?_
    obtain ⟨t14, e15, hf0⟩ := ob hf0
    refine r_ldI C dX12_unsay_35 e15 ?_
    obtain ⟨u17, e16, hf0⟩ := ob hf0
    obtain ⟨t18, h19, e20, hf0⟩ := ob2 hf0
    refine r_cV (ci := 12) (rest := []) (st2 := [.int t18]) C (s_X12_gives e20) mk_X12_gives rfl (ck_k e16) (by decide) im_X12_gives sl_X12_gives lk_X12_200 rfl rfl rfl dX12_unsay_36 (Nat.le_of_ble_eq_true rfl) ⟨Nat.le_of_ble_eq_true rfl, Nat.le_of_ble_eq_true rfl⟩ ⟨Nat.le_of_ble_eq_true rfl, Nat.le_of_ble_eq_true rfl⟩ ?_
    obtain rfl := so hf0
    exact r_iret C dX12_unsay_39
  · rw [if_pos c5] at hf0
    refine r_aload_n C dX12_unsay_10 rfl ?_
    refine r_bipush (v := 6) C dX12_unsay_11 (by decide) ?_
    obtain ⟨u22, e21, hf0⟩ := ob hf0
    obtain ⟨t23, h24, e25, hf0⟩ := ob2 hf0
    refine r_cV (ci := 12) (rest := []) (st2 := [.int t23]) C (s_X12_refuse e25) mk_X12_refuse rfl (ck_k e21) (by decide) im_X12_refuse sl_X12_refuse lk_X12_197 rfl rfl rfl dX12_unsay_13 (Nat.le_of_ble_eq_true rfl) ⟨Nat.le_of_ble_eq_true rfl, Nat.le_of_ble_eq_true rfl⟩ ⟨Nat.le_of_ble_eq_true rfl, Nat.le_of_ble_eq_true rfl⟩ ?_
    obtain rfl := so hf0
    exact r_iret C dX12_unsay_16
def f_X12_nextDay (h : aH) (v0 : Nat) : Option (Int32 × aH) := (gR h 12 v0 0).bind fun t1 => (lI h t1 (5 : Int32)).bind fun t2 => if t2 = (99 : Int32) then (ck h 12 v0).bind fun _ => bd2 (f_X12_refuse h v0 (4 : Int32)) fun t10 h11 => some (t10, h11) else (gR h 12 v0 0).bind fun t3 => (lI h t3 (5 : Int32)).bind fun t4 => (sI h t3 (5 : Int32) (t4 + (1 : Int32))).bind fun h5 => (gR h5 12 v0 0).bind fun t6 => (lI h5 t6 (5 : Int32)).bind fun t7 => (ck h5 12 v0).bind fun _ => bd2 (f_X12_gives h5 v0 t7) fun t8 h9 => some (t8, h9)
theorem s_X12_nextDay {h : aH} {v0 : Nat} {out : Int32 × aH} (hf0 : f_X12_nextDay h v0 = some out) : EV 1 yX12_nextDay cX12_nextDay 1 (some .int) h [.ref v0] (some (.int out.1)) out.2 0 0 := by
  refine EV.of (own := RX12) (lv0 := [(0, .ref v0)]) (by decide +kernel) rfl rfl (Nat.le_of_ble_eq_true rfl) ?_
  intro p l e s m args below meth c D cA B Hb C hin
  unfold f_X12_nextDay at hf0
  refine r_aload_n C dX12_nextDay_0 rfl ?_
  obtain ⟨t1, e2, hf0⟩ := ob hf0
  refine r_getR C fk_X12_7 rfl dX12_nextDay_1 e2 ?_
  refine r_iconst (v := 5) C dX12_nextDay_4 (by decide) ?_
  obtain ⟨t3, e4, hf0⟩ := ob hf0
  refine r_ldI C dX12_nextDay_5 e4 ?_
  refine r_bipush (v := 99) C dX12_nextDay_6 (by decide) ?_
  refine r_icmp_ne (tgt := 17) C dX12_nextDay_8 (by decide) (fun c5 => ?_) (fun c5 => ?_)
  · rw [if_neg c5] at hf0
    refine r_aload_n C dX12_nextDay_17 rfl ?_
    obtain ⟨t6, e7, hf0⟩ := ob hf0
    refine r_getR C fk_X12_7 rfl dX12_nextDay_18 e7 ?_
    refine r_iconst (v := 5) C dX12_nextDay_21 (by decide) ?_
    refine r_dup2 C dX12_nextDay_22 rfl rfl ?_
    obtain ⟨t8, e9, hf0⟩ := ob hf0
    refine r_ldI C dX12_nextDay_23 e9 ?_
    refine r_iconst (v := 1) C dX12_nextDay_24 (by decide) ?_
    refine r_iadd C dX12_nextDay_25 ?_
    obtain ⟨h10, e11, hf0⟩ := ob hf0
    refine r_stI C dX12_nextDay_26 e11 ?_
    refine r_aload_n C dX12_nextDay_27 rfl ?_
    refine r_aload_n C dX12_nextDay_28 rfl ?_
    obtain ⟨t12, e13, hf0⟩ := ob hf0
    refine r_getR C fk_X12_7 rfl dX12_nextDay_29 e13 ?_
    refine r_iconst (v := 5) C dX12_nextDay_32 (by decide) ?_
    obtain ⟨t14, e15, hf0⟩ := ob hf0
    refine r_ldI C dX12_nextDay_33 e15 ?_
    obtain ⟨u17, e16, hf0⟩ := ob hf0
    obtain ⟨t18, h19, e20, hf0⟩ := ob2 hf0
    refine r_cV (ci := 12) (rest := []) (st2 := [.int t18]) C (s_X12_gives e20) mk_X12_gives rfl (ck_k e16) (by decide) im_X12_gives sl_X12_gives lk_X12_200 rfl rfl rfl dX12_nextDay_34 (Nat.le_of_ble_eq_true rfl) ⟨Nat.le_of_ble_eq_true rfl, Nat.le_of_ble_eq_true rfl⟩ ⟨Nat.le_of_ble_eq_true rfl, Nat.le_of_ble_eq_true rfl⟩ ?_
    obtain rfl := so hf0
    exact r_iret C dX12_nextDay_37
  · rw [if_pos c5] at hf0
    refine r_aload_n C dX12_nextDay_11 rfl ?_
    refine r_iconst (v := 4) C dX12_nextDay_12 (by decide) ?_
    obtain ⟨u22, e21, hf0⟩ := ob hf0
    obtain ⟨t23, h24, e25, hf0⟩ := ob2 hf0
    refine r_cV (ci := 12) (rest := []) (st2 := [.int t23]) C (s_X12_refuse e25) mk_X12_refuse rfl (ck_k e21) (by decide) im_X12_refuse sl_X12_refuse lk_X12_197 rfl rfl rfl dX12_nextDay_13 (Nat.le_of_ble_eq_true rfl) ⟨Nat.le_of_ble_eq_true rfl, Nat.le_of_ble_eq_true rfl⟩ ⟨Nat.le_of_ble_eq_true rfl, Nat.le_of_ble_eq_true rfl⟩ ?_
    obtain rfl := so hf0
    exact r_iret C dX12_nextDay_16
def f_X12_heard_j32 (h : aH) (v0 : Nat) : Option (Int32 × aH) := (ck h 12 v0).bind fun _ => bd2 (f_X12_refuse h v0 (6 : Int32)) fun t1 h2 => some (t1, h2)
def f_X12_heard_j9 (h : aH) (v0 : Nat) : Option (Int32 × aH) := (ck h 12 v0).bind fun _ => bd2 (f_X12_refuse h v0 (1 : Int32)) fun t3 h4 => some (t3, h4)
def f_X12_heard (h : aH) (v0 : Nat) (v1 : Int32) (v2 : Int32) : Option (Int32 × aH) := if v2 < 0 then f_X12_heard_j9 h v0 else if v2 ≤ (3 : Int32) then if v1 < 0 then f_X12_heard_j32 h v0 else (gR h 12 v0 0).bind fun t5 => (lI h t5 (6 : Int32)).bind fun t6 => if v1 < t6 then (ck h 12 v0).bind fun _ => (f_X12_ofHeard h v0 v1 v2).bind fun t7 => (ck h 12 v0).bind fun _ => bd2 (f_X12_gives h v0 t7) fun t8 h9 => some (t8, h9) else f_X12_heard_j32 h v0 else f_X12_heard_j9 h v0
theorem s_X12_heard {h : aH} {v0 : Nat} {v1 : Int32} {v2 : Int32} {out : Int32 × aH} (hf0 : f_X12_heard h v0 v1 v2 = some out) : EV 1 yX12_heard cX12_heard 3 (some .int) h [.ref v0, .int v1, .int v2] (some (.int out.1)) out.2 0 0 := by
  refine EV.of (own := RX12) (lv0 := [(0, .ref v0), (1, .int v1), (2, .int v2)]) (by decide +kernel) rfl rfl (Nat.le_of_ble_eq_true rfl) ?_
  intro p l e s m args below meth c D cA B Hb C hin
  unfold f_X12_heard at hf0
  have J32 : ∀ (h1 : aH) (t2 : Nat), f_X12_heard_j32 h1 t2 = some out → gW p l e (rmO 1 0 0) s m args below meth c (MQ below (eQ D cA B Hb out.2 (some (.int out.1))) args s 0 0 (fun q => B ≤ q)) D cA B Hb 3 h1 32 [(0, .ref t2)] [] 0 0 := by
    intro h1 t2 hf0
    unfold f_X12_heard_j32 at hf0
    refine r_aload_n C dX12_heard_32 rfl ?_
    refine r_bipush (v := 6) C dX12_heard_33 (by decide) ?_
    obtain ⟨u4, e3, hf0⟩ := ob hf0
    obtain ⟨t5, h6, e7, hf0⟩ := ob2 hf0
    refine r_cV (ci := 12) (rest := []) (st2 := [.int t5]) C (s_X12_refuse e7) mk_X12_refuse rfl (ck_k e3) (by decide) im_X12_refuse sl_X12_refuse lk_X12_197 rfl rfl rfl dX12_heard_35 (Nat.le_of_ble_eq_true rfl) ⟨Nat.le_of_ble_eq_true rfl, Nat.le_of_ble_eq_true rfl⟩ ⟨Nat.le_of_ble_eq_true rfl, Nat.le_of_ble_eq_true rfl⟩ ?_
    refine r_goto (tgt := 51) C dX12_heard_38 (by decide) ?_
    obtain rfl := so hf0
    exact r_iret C dX12_heard_51
  have J9 : ∀ (h8 : aH) (t9 : Nat), f_X12_heard_j9 h8 t9 = some out → gW p l e (rmO 1 0 0) s m args below meth c (MQ below (eQ D cA B Hb out.2 (some (.int out.1))) args s 0 0 (fun q => B ≤ q)) D cA B Hb 3 h8 9 [(0, .ref t9)] [] 0 0 := by
    intro h8 t9 hf0
    unfold f_X12_heard_j9 at hf0
    refine r_aload_n C dX12_heard_9 rfl ?_
    refine r_iconst (v := 1) C dX12_heard_10 (by decide) ?_
    obtain ⟨u11, e10, hf0⟩ := ob hf0
    obtain ⟨t12, h13, e14, hf0⟩ := ob2 hf0
    refine r_cV (ci := 12) (rest := []) (st2 := [.int t12]) C (s_X12_refuse e14) mk_X12_refuse rfl (ck_k e10) (by decide) im_X12_refuse sl_X12_refuse lk_X12_197 rfl rfl rfl dX12_heard_11 (Nat.le_of_ble_eq_true rfl) ⟨Nat.le_of_ble_eq_true rfl, Nat.le_of_ble_eq_true rfl⟩ ⟨Nat.le_of_ble_eq_true rfl, Nat.le_of_ble_eq_true rfl⟩ ?_
    refine r_goto (tgt := 51) C dX12_heard_14 (by decide) ?_
    obtain rfl := so hf0
    exact r_iret C dX12_heard_51
  refine r_iload_n C dX12_heard_0 rfl ?_
  refine r_iflt (tgt := 9) C dX12_heard_1 (by decide) (fun c15 => ?_) (fun c15 => ?_)
  · rw [if_pos c15] at hf0
    refine r_subk [0] (lv' := [(0, .ref v0)]) rfl ?_
    exact J9 h v0 hf0
  · rw [if_neg c15] at hf0
    refine r_iload_n C dX12_heard_4 rfl ?_
    refine r_iconst (v := 3) C dX12_heard_5 (by decide) ?_
    refine r_icmp_le (tgt := 17) C dX12_heard_6 (by decide) (fun c16 => ?_) (fun c16 => ?_)
    · rw [if_pos c16] at hf0
      refine r_iload_n C dX12_heard_17 rfl ?_
      refine r_iflt (tgt := 32) C dX12_heard_18 (by decide) (fun c17 => ?_) (fun c17 => ?_)
      · rw [if_pos c17] at hf0
        refine r_subk [0] (lv' := [(0, .ref v0)]) rfl ?_
        exact J32 h v0 hf0
      · rw [if_neg c17] at hf0
        refine r_iload_n C dX12_heard_21 rfl ?_
        refine r_aload_n C dX12_heard_22 rfl ?_
        obtain ⟨t18, e19, hf0⟩ := ob hf0
        refine r_getR C fk_X12_7 rfl dX12_heard_23 e19 ?_
        refine r_bipush (v := 6) C dX12_heard_26 (by decide) ?_
        obtain ⟨t20, e21, hf0⟩ := ob hf0
        refine r_ldI C dX12_heard_28 e21 ?_
        refine r_icmp_lt (tgt := 41) C dX12_heard_29 (by decide) (fun c22 => ?_) (fun c22 => ?_)
        · rw [if_pos c22] at hf0
          refine r_aload_n C dX12_heard_41 rfl ?_
          refine r_aload_n C dX12_heard_42 rfl ?_
          refine r_iload_n C dX12_heard_43 rfl ?_
          refine r_iload_n C dX12_heard_44 rfl ?_
          obtain ⟨u24, e23, hf0⟩ := ob hf0
          obtain ⟨t25, e26, hf0⟩ := ob hf0
          refine r_cV (ci := 12) (rest := [.ref v0]) (st2 := [.int t25, .ref v0]) C (s_X12_ofHeard e26) mk_X12_ofHeard rfl (ck_k e23) (by decide) im_X12_ofHeard sl_X12_ofHeard lk_X12_322 rfl rfl rfl dX12_heard_45 (Nat.le_of_ble_eq_true rfl) ⟨Nat.le_of_ble_eq_true rfl, Nat.le_of_ble_eq_true rfl⟩ ⟨Nat.le_of_ble_eq_true rfl, Nat.le_of_ble_eq_true rfl⟩ ?_
          obtain ⟨u28, e27, hf0⟩ := ob hf0
          obtain ⟨t29, h30, e31, hf0⟩ := ob2 hf0
          refine r_cV (ci := 12) (rest := []) (st2 := [.int t29]) C (s_X12_gives e31) mk_X12_gives rfl (ck_k e27) (by decide) im_X12_gives sl_X12_gives lk_X12_200 rfl rfl rfl dX12_heard_48 (Nat.le_of_ble_eq_true rfl) ⟨Nat.le_of_ble_eq_true rfl, Nat.le_of_ble_eq_true rfl⟩ ⟨Nat.le_of_ble_eq_true rfl, Nat.le_of_ble_eq_true rfl⟩ ?_
          obtain rfl := so hf0
          exact r_iret C dX12_heard_51
        · rw [if_neg c22] at hf0
          refine r_subk [0] (lv' := [(0, .ref v0)]) rfl ?_
          exact J32 h v0 hf0
    · rw [if_neg c16] at hf0
      refine r_subk [0] (lv' := [(0, .ref v0)]) rfl ?_
      exact J9 h v0 hf0
def f_X12_left (h : aH) (v0 : Nat) : Option (Int32 × aH) := (ck h 12 v0).bind fun _ => (f_X12_fitsAll h v0).bind fun h1 => (ck h1 12 v0).bind fun _ => (f_X12_leftAt h1 v0 (0 : Int32)).bind fun t2 => (ck h1 12 v0).bind fun _ => bd2 (f_X12_gives h1 v0 t2) fun t3 h4 => some (t3, h4)
theorem s_X12_left {h : aH} {v0 : Nat} {out : Int32 × aH} (hf0 : f_X12_left h v0 = some out) : EV 4 yX12_left cX12_left 1 (some .int) h [.ref v0] (some (.int out.1)) out.2 0 0 := by
  refine EV.of (own := RX12) (lv0 := [(0, .ref v0)]) (by decide +kernel) rfl rfl (Nat.le_of_ble_eq_true rfl) ?_
  intro p l e s m args below meth c D cA B Hb C hin
  unfold f_X12_left at hf0
  refine r_aload_n C dX12_left_0 rfl ?_
  obtain ⟨u2, e1, hf0⟩ := ob hf0
  obtain ⟨h3, e4, hf0⟩ := ob hf0
  refine r_cV (ci := 12) (rest := []) (st2 := []) C (s_X12_fitsAll e4) mk_X12_fitsAll rfl (ck_k e1) (by decide) im_X12_fitsAll sl_X12_fitsAll lk_X12_388 rfl rfl rfl dX12_left_1 (Nat.le_of_ble_eq_true rfl) ⟨Nat.le_of_ble_eq_true rfl, Nat.le_of_ble_eq_true rfl⟩ ⟨Nat.le_of_ble_eq_true rfl, Nat.le_of_ble_eq_true rfl⟩ ?_
  refine r_aload_n C dX12_left_4 rfl ?_
  refine r_aload_n C dX12_left_5 rfl ?_
  refine r_iconst (v := 0) C dX12_left_6 (by decide) ?_
  obtain ⟨u6, e5, hf0⟩ := ob hf0
  obtain ⟨t7, e8, hf0⟩ := ob hf0
  refine r_cV (ci := 12) (rest := [.ref v0]) (st2 := [.int t7, .ref v0]) C (s_X12_leftAt e8) mk_X12_leftAt rfl (ck_k e5) (by decide) im_X12_leftAt sl_X12_leftAt lk_X12_391 rfl rfl rfl dX12_left_7 (Nat.le_of_ble_eq_true rfl) ⟨Nat.le_of_ble_eq_true rfl, Nat.le_of_ble_eq_true rfl⟩ ⟨Nat.le_of_ble_eq_true rfl, Nat.le_of_ble_eq_true rfl⟩ ?_
  obtain ⟨u10, e9, hf0⟩ := ob hf0
  obtain ⟨t11, h12, e13, hf0⟩ := ob2 hf0
  refine r_cV (ci := 12) (rest := []) (st2 := [.int t11]) C (s_X12_gives e13) mk_X12_gives rfl (ck_k e9) (by decide) im_X12_gives sl_X12_gives lk_X12_200 rfl rfl rfl dX12_left_10 (Nat.le_of_ble_eq_true rfl) ⟨Nat.le_of_ble_eq_true rfl, Nat.le_of_ble_eq_true rfl⟩ ⟨Nat.le_of_ble_eq_true rfl, Nat.le_of_ble_eq_true rfl⟩ ?_
  obtain rfl := so hf0
  exact r_iret C dX12_left_13
def f_X12_isLeft_j33 (h : aH) (s0 : Nat) (s1 : Int32) : Option (Int32 × aH) := (ck h 12 s0).bind fun _ => bd2 (f_X12_gives h s0 s1) fun t1 h2 => some (t1, h2)
def f_X12_isLeft (h : aH) (v0 : Nat) (v1 : Int32) : Option (Int32 × aH) := (ck h 12 v0).bind fun _ => (f_X12_isWorld h v0 v1).bind fun t3 => if t3 = 0 then (ck h 12 v0).bind fun _ => bd2 (f_X12_refuse h v0 (1 : Int32)) fun t6 h7 => some (t6, h7) else (ck h 12 v0).bind fun _ => (f_X12_fitsAll h v0).bind fun h4 => (ck h4 12 v0).bind fun _ => (f_X12_isLeftAt h4 v0 (0 : Int32) v1).bind fun t5 => if t5 = 0 then f_X12_isLeft_j33 h4 v0 (0 : Int32) else f_X12_isLeft_j33 h4 v0 (1 : Int32)
theorem s_X12_isLeft {h : aH} {v0 : Nat} {v1 : Int32} {out : Int32 × aH} (hf0 : f_X12_isLeft h v0 v1 = some out) : EV 4 yX12_isLeft cX12_isLeft 2 (some .int) h [.ref v0, .int v1] (some (.int out.1)) out.2 0 0 := by
  refine EV.of (own := RX12) (lv0 := [(0, .ref v0), (1, .int v1)]) (by decide +kernel) rfl rfl (Nat.le_of_ble_eq_true rfl) ?_
  intro p l e s m args below meth c D cA B Hb C hin
  unfold f_X12_isLeft at hf0
  have J33 : ∀ (h1 : aH) (t2 : Nat) (t3 : Int32), f_X12_isLeft_j33 h1 t2 t3 = some out → gW p l e (rmO 4 0 0) s m args below meth c (MQ below (eQ D cA B Hb out.2 (some (.int out.1))) args s 0 0 (fun q => B ≤ q)) D cA B Hb 2 h1 33 [] [.int t3, .ref t2] 0 0 := by
    intro h1 t2 t3 hf0
    unfold f_X12_isLeft_j33 at hf0
    obtain ⟨u5, e4, hf0⟩ := ob hf0
    obtain ⟨t6, h7, e8, hf0⟩ := ob2 hf0
    refine r_cV (ci := 12) (rest := []) (st2 := [.int t6]) C (s_X12_gives e8) mk_X12_gives rfl (ck_k e4) (by decide) im_X12_gives sl_X12_gives lk_X12_200 rfl rfl rfl dX12_isLeft_33 (Nat.le_of_ble_eq_true rfl) ⟨Nat.le_of_ble_eq_true rfl, Nat.le_of_ble_eq_true rfl⟩ ⟨Nat.le_of_ble_eq_true rfl, Nat.le_of_ble_eq_true rfl⟩ ?_
    obtain rfl := so hf0
    exact r_iret C dX12_isLeft_36
  refine r_aload_n C dX12_isLeft_0 rfl ?_
  refine r_iload_n C dX12_isLeft_1 rfl ?_
  obtain ⟨u10, e9, hf0⟩ := ob hf0
  obtain ⟨t11, e12, hf0⟩ := ob hf0
  refine r_cV (ci := 12) (rest := []) (st2 := [.int t11]) C (s_X12_isWorld e12) mk_X12_isWorld rfl (ck_k e9) (by decide) im_X12_isWorld sl_X12_isWorld lk_X12_328 rfl rfl rfl dX12_isLeft_2 (Nat.le_of_ble_eq_true rfl) ⟨Nat.le_of_ble_eq_true rfl, Nat.le_of_ble_eq_true rfl⟩ ⟨Nat.le_of_ble_eq_true rfl, Nat.le_of_ble_eq_true rfl⟩ ?_
  refine r_ifne (tgt := 14) C dX12_isLeft_5 (by decide) (fun c13 => ?_) (fun c13 => ?_)
  · rw [if_neg c13] at hf0
    refine r_aload_n C dX12_isLeft_14 rfl ?_
    obtain ⟨u15, e14, hf0⟩ := ob hf0
    obtain ⟨h16, e17, hf0⟩ := ob hf0
    refine r_cV (ci := 12) (rest := []) (st2 := []) C (s_X12_fitsAll e17) mk_X12_fitsAll rfl (ck_k e14) (by decide) im_X12_fitsAll sl_X12_fitsAll lk_X12_388 rfl rfl rfl dX12_isLeft_15 (Nat.le_of_ble_eq_true rfl) ⟨Nat.le_of_ble_eq_true rfl, Nat.le_of_ble_eq_true rfl⟩ ⟨Nat.le_of_ble_eq_true rfl, Nat.le_of_ble_eq_true rfl⟩ ?_
    refine r_aload_n C dX12_isLeft_18 rfl ?_
    refine r_aload_n C dX12_isLeft_19 rfl ?_
    refine r_iconst (v := 0) C dX12_isLeft_20 (by decide) ?_
    refine r_iload_n C dX12_isLeft_21 rfl ?_
    obtain ⟨u19, e18, hf0⟩ := ob hf0
    obtain ⟨t20, e21, hf0⟩ := ob hf0
    refine r_cV (ci := 12) (rest := [.ref v0]) (st2 := [.int t20, .ref v0]) C (s_X12_isLeftAt e21) mk_X12_isLeftAt rfl (ck_k e18) (by decide) im_X12_isLeftAt sl_X12_isLeftAt lk_X12_381 rfl rfl rfl dX12_isLeft_22 (Nat.le_of_ble_eq_true rfl) ⟨Nat.le_of_ble_eq_true rfl, Nat.le_of_ble_eq_true rfl⟩ ⟨Nat.le_of_ble_eq_true rfl, Nat.le_of_ble_eq_true rfl⟩ ?_
    refine r_ifeq (tgt := 32) C dX12_isLeft_25 (by decide) (fun c22 => ?_) (fun c22 => ?_)
    · rw [if_pos c22] at hf0
      refine r_iconst (v := 0) C dX12_isLeft_32 (by decide) ?_
      refine r_subk [] (lv' := []) rfl ?_
      exact J33 h16 v0 (0 : Int32) hf0
    · rw [if_neg c22] at hf0
      refine r_iconst (v := 1) C dX12_isLeft_28 (by decide) ?_
      refine r_goto (tgt := 33) C dX12_isLeft_29 (by decide) ?_
      refine r_subk [] (lv' := []) rfl ?_
      exact J33 h16 v0 (1 : Int32) hf0
  · rw [if_pos c13] at hf0
    refine r_aload_n C dX12_isLeft_8 rfl ?_
    refine r_iconst (v := 1) C dX12_isLeft_9 (by decide) ?_
    obtain ⟨u24, e23, hf0⟩ := ob hf0
    obtain ⟨t25, h26, e27, hf0⟩ := ob2 hf0
    refine r_cV (ci := 12) (rest := []) (st2 := [.int t25]) C (s_X12_refuse e27) mk_X12_refuse rfl (ck_k e23) (by decide) im_X12_refuse sl_X12_refuse lk_X12_197 rfl rfl rfl dX12_isLeft_10 (Nat.le_of_ble_eq_true rfl) ⟨Nat.le_of_ble_eq_true rfl, Nat.le_of_ble_eq_true rfl⟩ ⟨Nat.le_of_ble_eq_true rfl, Nat.le_of_ble_eq_true rfl⟩ ?_
    obtain rfl := so hf0
    exact r_iret C dX12_isLeft_13
def f_X12_fits_j23 (h : aH) (v0 : Nat) : Option (Int32 × aH) := (ck h 12 v0).bind fun _ => bd2 (f_X12_refuse h v0 (1 : Int32)) fun t1 h2 => some (t1, h2)
def f_X12_fits (h : aH) (v0 : Nat) (v1 : Int32) (v2 : Int32) (v3 : Int32) : Option (Int32 × aH) := (ck h 12 v0).bind fun _ => (f_X12_isWitness h v0 v1).bind fun t3 => if t3 = 0 then f_X12_fits_j23 h v0 else (f_X12_isKind h v2).bind fun t4 => if t4 = 0 then f_X12_fits_j23 h v0 else (ck h 12 v0).bind fun _ => (f_X12_isWorld h v0 v3).bind fun t5 => if t5 = 0 then f_X12_fits_j23 h v0 else (ck h 12 v0).bind fun _ => (f_X12_isPossible h v0 v3).bind fun t6 => if t6 = 0 then (ck h 12 v0).bind fun _ => bd2 (f_X12_refuse h v0 (7 : Int32)) fun t12 h13 => some (t12, h13) else (ck h 12 v0).bind fun _ => (f_X12_fitsAll h v0).bind fun h7 => (gR h7 12 v0 34).bind fun t8 => (lI h7 t8 (((256 : Int32) * v1) + v3)).bind fun t9 => (ck h7 12 v0).bind fun _ => bd2 (f_X12_gives h7 v0 ((t9 >>> (v2 &&& 31)) &&& (1 : Int32))) fun t10 h11 => some (t10, h11)
theorem s_X12_fits {h : aH} {v0 : Nat} {v1 : Int32} {v2 : Int32} {v3 : Int32} {out : Int32 × aH} (hf0 : f_X12_fits h v0 v1 v2 v3 = some out) : EV 4 yX12_fits cX12_fits 4 (some .int) h [.ref v0, .int v1, .int v2, .int v3] (some (.int out.1)) out.2 0 0 := by
  refine EV.of (own := RX12) (lv0 := [(0, .ref v0), (1, .int v1), (2, .int v2), (3, .int v3)]) (by decide +kernel) rfl rfl (Nat.le_of_ble_eq_true rfl) ?_
  intro p l e s m args below meth c D cA B Hb C hin
  unfold f_X12_fits at hf0
  have J23 : ∀ (h1 : aH) (t2 : Nat), f_X12_fits_j23 h1 t2 = some out → gW p l e (rmO 4 0 0) s m args below meth c (MQ below (eQ D cA B Hb out.2 (some (.int out.1))) args s 0 0 (fun q => B ≤ q)) D cA B Hb 4 h1 23 [(0, .ref t2)] [] 0 0 := by
    intro h1 t2 hf0
    unfold f_X12_fits_j23 at hf0
    refine r_aload_n C dX12_fits_23 rfl ?_
    refine r_iconst (v := 1) C dX12_fits_24 (by decide) ?_
    obtain ⟨u4, e3, hf0⟩ := ob hf0
    obtain ⟨t5, h6, e7, hf0⟩ := ob2 hf0
    refine r_cV (ci := 12) (rest := []) (st2 := [.int t5]) C (s_X12_refuse e7) mk_X12_refuse rfl (ck_k e3) (by decide) im_X12_refuse sl_X12_refuse lk_X12_197 rfl rfl rfl dX12_fits_25 (Nat.le_of_ble_eq_true rfl) ⟨Nat.le_of_ble_eq_true rfl, Nat.le_of_ble_eq_true rfl⟩ ⟨Nat.le_of_ble_eq_true rfl, Nat.le_of_ble_eq_true rfl⟩ ?_
    obtain rfl := so hf0
    exact r_iret C dX12_fits_28
  refine r_aload_n C dX12_fits_0 rfl ?_
  refine r_iload_n C dX12_fits_1 rfl ?_
  obtain ⟨u9, e8, hf0⟩ := ob hf0
  obtain ⟨t10, e11, hf0⟩ := ob hf0
  refine r_cV (ci := 12) (rest := []) (st2 := [.int t10]) C (s_X12_isWitness e11) mk_X12_isWitness rfl (ck_k e8) (by decide) im_X12_isWitness sl_X12_isWitness lk_X12_340 rfl rfl rfl dX12_fits_2 (Nat.le_of_ble_eq_true rfl) ⟨Nat.le_of_ble_eq_true rfl, Nat.le_of_ble_eq_true rfl⟩ ⟨Nat.le_of_ble_eq_true rfl, Nat.le_of_ble_eq_true rfl⟩ ?_
  refine r_ifeq (tgt := 23) C dX12_fits_5 (by decide) (fun c12 => ?_) (fun c12 => ?_)
  · rw [if_pos c12] at hf0
    refine r_subk [0] (lv' := [(0, .ref v0)]) rfl ?_
    exact J23 h v0 hf0
  · rw [if_neg c12] at hf0
    refine r_iload_n C dX12_fits_8 rfl ?_
    obtain ⟨t13, e14, hf0⟩ := ob hf0
    refine r_cS (rest := []) (st2 := [.int t13]) C (s_X12_isKind e14) mk_X12_isKind sm_X12_isKind lk_X12_365 rfl rfl rfl dX12_fits_9 (Nat.le_of_ble_eq_true rfl) ⟨Nat.le_of_ble_eq_true rfl, Nat.le_of_ble_eq_true rfl⟩ ⟨Nat.le_of_ble_eq_true rfl, Nat.le_of_ble_eq_true rfl⟩ ?_
    refine r_ifeq (tgt := 23) C dX12_fits_12 (by decide) (fun c15 => ?_) (fun c15 => ?_)
    · rw [if_pos c15] at hf0
      refine r_subk [0] (lv' := [(0, .ref v0)]) rfl ?_
      exact J23 h v0 hf0
    · rw [if_neg c15] at hf0
      refine r_aload_n C dX12_fits_15 rfl ?_
      refine r_iload_n C dX12_fits_16 rfl ?_
      obtain ⟨u17, e16, hf0⟩ := ob hf0
      obtain ⟨t18, e19, hf0⟩ := ob hf0
      refine r_cV (ci := 12) (rest := []) (st2 := [.int t18]) C (s_X12_isWorld e19) mk_X12_isWorld rfl (ck_k e16) (by decide) im_X12_isWorld sl_X12_isWorld lk_X12_328 rfl rfl rfl dX12_fits_17 (Nat.le_of_ble_eq_true rfl) ⟨Nat.le_of_ble_eq_true rfl, Nat.le_of_ble_eq_true rfl⟩ ⟨Nat.le_of_ble_eq_true rfl, Nat.le_of_ble_eq_true rfl⟩ ?_
      refine r_ifne (tgt := 29) C dX12_fits_20 (by decide) (fun c20 => ?_) (fun c20 => ?_)
      · rw [if_neg c20] at hf0
        refine r_aload_n C dX12_fits_29 rfl ?_
        refine r_iload_n C dX12_fits_30 rfl ?_
        obtain ⟨u22, e21, hf0⟩ := ob hf0
        obtain ⟨t23, e24, hf0⟩ := ob hf0
        refine r_cV (ci := 12) (rest := []) (st2 := [.int t23]) C (s_X12_isPossible e24) mk_X12_isPossible rfl (ck_k e21) (by decide) im_X12_isPossible sl_X12_isPossible lk_X12_331 rfl rfl rfl dX12_fits_31 (Nat.le_of_ble_eq_true rfl) ⟨Nat.le_of_ble_eq_true rfl, Nat.le_of_ble_eq_true rfl⟩ ⟨Nat.le_of_ble_eq_true rfl, Nat.le_of_ble_eq_true rfl⟩ ?_
        refine r_ifne (tgt := 44) C dX12_fits_34 (by decide) (fun c25 => ?_) (fun c25 => ?_)
        · rw [if_neg c25] at hf0
          refine r_aload_n C dX12_fits_44 rfl ?_
          obtain ⟨u27, e26, hf0⟩ := ob hf0
          obtain ⟨h28, e29, hf0⟩ := ob hf0
          refine r_cV (ci := 12) (rest := []) (st2 := []) C (s_X12_fitsAll e29) mk_X12_fitsAll rfl (ck_k e26) (by decide) im_X12_fitsAll sl_X12_fitsAll lk_X12_388 rfl rfl rfl dX12_fits_45 (Nat.le_of_ble_eq_true rfl) ⟨Nat.le_of_ble_eq_true rfl, Nat.le_of_ble_eq_true rfl⟩ ⟨Nat.le_of_ble_eq_true rfl, Nat.le_of_ble_eq_true rfl⟩ ?_
          refine r_aload_n C dX12_fits_48 rfl ?_
          refine r_aload_n C dX12_fits_49 rfl ?_
          obtain ⟨t30, e31, hf0⟩ := ob hf0
          refine r_getR C fk_X12_69 rfl dX12_fits_50 e31 ?_
          refine r_sipush (v := 256) C dX12_fits_53 (by decide) ?_
          refine r_iload_n C dX12_fits_56 rfl ?_
          refine r_imul C dX12_fits_57 ?_
          refine r_iload_n C dX12_fits_58 rfl ?_
          refine r_iadd C dX12_fits_59 ?_
          obtain ⟨t32, e33, hf0⟩ := ob hf0
          refine r_ldI C dX12_fits_60 e33 ?_
          refine r_iload_n C dX12_fits_61 rfl ?_
          refine r_ishr C dX12_fits_62 ?_
          refine r_iconst (v := 1) C dX12_fits_63 (by decide) ?_
          refine r_iand C dX12_fits_64 ?_
          obtain ⟨u35, e34, hf0⟩ := ob hf0
          obtain ⟨t36, h37, e38, hf0⟩ := ob2 hf0
          refine r_cV (ci := 12) (rest := []) (st2 := [.int t36]) C (s_X12_gives e38) mk_X12_gives rfl (ck_k e34) (by decide) im_X12_gives sl_X12_gives lk_X12_200 rfl rfl rfl dX12_fits_65 (Nat.le_of_ble_eq_true rfl) ⟨Nat.le_of_ble_eq_true rfl, Nat.le_of_ble_eq_true rfl⟩ ⟨Nat.le_of_ble_eq_true rfl, Nat.le_of_ble_eq_true rfl⟩ ?_
          obtain rfl := so hf0
          exact r_iret C dX12_fits_68
        · rw [if_pos c25] at hf0
          refine r_aload_n C dX12_fits_37 rfl ?_
          refine r_bipush (v := 7) C dX12_fits_38 (by decide) ?_
          obtain ⟨u40, e39, hf0⟩ := ob hf0
          obtain ⟨t41, h42, e43, hf0⟩ := ob2 hf0
          refine r_cV (ci := 12) (rest := []) (st2 := [.int t41]) C (s_X12_refuse e43) mk_X12_refuse rfl (ck_k e39) (by decide) im_X12_refuse sl_X12_refuse lk_X12_197 rfl rfl rfl dX12_fits_40 (Nat.le_of_ble_eq_true rfl) ⟨Nat.le_of_ble_eq_true rfl, Nat.le_of_ble_eq_true rfl⟩ ⟨Nat.le_of_ble_eq_true rfl, Nat.le_of_ble_eq_true rfl⟩ ?_
          obtain rfl := so hf0
          exact r_iret C dX12_fits_43
      · rw [if_pos c20] at hf0
        refine r_subk [0] (lv' := [(0, .ref v0)]) rfl ?_
        exact J23 h v0 hf0
def f_X12_sure (h : aH) (v0 : Nat) (v1 : Int32) : Option (Int32 × aH) := (ck h 12 v0).bind fun _ => (f_X12_isQuestion h v0 v1).bind fun t1 => if t1 = 0 then (ck h 12 v0).bind fun _ => bd2 (f_X12_refuse h v0 (1 : Int32)) fun t8 h9 => some (t8, h9) else (ck h 12 v0).bind fun _ => (f_X12_fitsAll h v0).bind fun h2 => (ck h2 12 v0).bind fun _ => (f_X12_sureAt h2 v0 (0 : Int32) v1).bind fun t3 => if t3 = (-1 : Int32) then (ck h2 12 v0).bind fun _ => bd2 (f_X12_refuse h2 v0 (6 : Int32)) fun t6 h7 => some (t6, h7) else (ck h2 12 v0).bind fun _ => bd2 (f_X12_gives h2 v0 t3) fun t4 h5 => some (t4, h5)
theorem s_X12_sure {h : aH} {v0 : Nat} {v1 : Int32} {out : Int32 × aH} (hf0 : f_X12_sure h v0 v1 = some out) : EV 4 yX12_sure cX12_sure 3 (some .int) h [.ref v0, .int v1] (some (.int out.1)) out.2 0 0 := by
  refine EV.of (own := RX12) (lv0 := [(0, .ref v0), (1, .int v1)]) (by decide +kernel) rfl rfl (Nat.le_of_ble_eq_true rfl) ?_
  intro p l e s m args below meth c D cA B Hb C hin
  unfold f_X12_sure at hf0
  refine r_aload_n C dX12_sure_0 rfl ?_
  refine r_iload_n C dX12_sure_1 rfl ?_
  obtain ⟨u2, e1, hf0⟩ := ob hf0
  obtain ⟨t3, e4, hf0⟩ := ob hf0
  refine r_cV (ci := 12) (rest := []) (st2 := [.int t3]) C (s_X12_isQuestion e4) mk_X12_isQuestion rfl (ck_k e1) (by decide) im_X12_isQuestion sl_X12_isQuestion lk_X12_334 rfl rfl rfl dX12_sure_2 (Nat.le_of_ble_eq_true rfl) ⟨Nat.le_of_ble_eq_true rfl, Nat.le_of_ble_eq_true rfl⟩ ⟨Nat.le_of_ble_eq_true rfl, Nat.le_of_ble_eq_true rfl⟩ ?_
  refine r_ifne (tgt := 14) C dX12_sure_5 (by decide) (fun c5 => ?_) (fun c5 => ?_)
  · rw [if_neg c5] at hf0
    refine r_aload_n C dX12_sure_14 rfl ?_
    obtain ⟨u7, e6, hf0⟩ := ob hf0
    obtain ⟨h8, e9, hf0⟩ := ob hf0
    refine r_cV (ci := 12) (rest := []) (st2 := []) C (s_X12_fitsAll e9) mk_X12_fitsAll rfl (ck_k e6) (by decide) im_X12_fitsAll sl_X12_fitsAll lk_X12_388 rfl rfl rfl dX12_sure_15 (Nat.le_of_ble_eq_true rfl) ⟨Nat.le_of_ble_eq_true rfl, Nat.le_of_ble_eq_true rfl⟩ ⟨Nat.le_of_ble_eq_true rfl, Nat.le_of_ble_eq_true rfl⟩ ?_
    refine r_aload_n C dX12_sure_18 rfl ?_
    refine r_iconst (v := 0) C dX12_sure_19 (by decide) ?_
    refine r_iload_n C dX12_sure_20 rfl ?_
    obtain ⟨u11, e10, hf0⟩ := ob hf0
    obtain ⟨t12, e13, hf0⟩ := ob hf0
    refine r_cV (ci := 12) (rest := []) (st2 := [.int t12]) C (s_X12_sureAt e13) mk_X12_sureAt rfl (ck_k e10) (by decide) im_X12_sureAt sl_X12_sureAt lk_X12_394 rfl rfl rfl dX12_sure_21 (Nat.le_of_ble_eq_true rfl) ⟨Nat.le_of_ble_eq_true rfl, Nat.le_of_ble_eq_true rfl⟩ ⟨Nat.le_of_ble_eq_true rfl, Nat.le_of_ble_eq_true rfl⟩ ?_
    refine r_istore_n (lv' := [(2, .int t12), (0, .ref v0), (1, .int v1)]) C dX12_sure_24 (by decide) rfl rfl ?_
    refine r_iload_n C dX12_sure_25 rfl ?_
    refine r_iconst (v := -1) C dX12_sure_26 (by decide) ?_
    refine r_icmp_ne (tgt := 39) C dX12_sure_27 (by decide) (fun c14 => ?_) (fun c14 => ?_)
    · rw [if_neg c14] at hf0
      refine r_aload_n C dX12_sure_39 rfl ?_
      refine r_iload_n C dX12_sure_40 rfl ?_
      obtain ⟨u16, e15, hf0⟩ := ob hf0
      obtain ⟨t17, h18, e19, hf0⟩ := ob2 hf0
      refine r_cV (ci := 12) (rest := []) (st2 := [.int t17]) C (s_X12_gives e19) mk_X12_gives rfl (ck_k e15) (by decide) im_X12_gives sl_X12_gives lk_X12_200 rfl rfl rfl dX12_sure_41 (Nat.le_of_ble_eq_true rfl) ⟨Nat.le_of_ble_eq_true rfl, Nat.le_of_ble_eq_true rfl⟩ ⟨Nat.le_of_ble_eq_true rfl, Nat.le_of_ble_eq_true rfl⟩ ?_
      obtain rfl := so hf0
      exact r_iret C dX12_sure_44
    · rw [if_pos c14] at hf0
      refine r_aload_n C dX12_sure_30 rfl ?_
      refine r_bipush (v := 6) C dX12_sure_31 (by decide) ?_
      obtain ⟨u21, e20, hf0⟩ := ob hf0
      obtain ⟨t22, h23, e24, hf0⟩ := ob2 hf0
      refine r_cV (ci := 12) (rest := []) (st2 := [.int t22]) C (s_X12_refuse e24) mk_X12_refuse rfl (ck_k e20) (by decide) im_X12_refuse sl_X12_refuse lk_X12_197 rfl rfl rfl dX12_sure_33 (Nat.le_of_ble_eq_true rfl) ⟨Nat.le_of_ble_eq_true rfl, Nat.le_of_ble_eq_true rfl⟩ ⟨Nat.le_of_ble_eq_true rfl, Nat.le_of_ble_eq_true rfl⟩ ?_
      refine r_goto (tgt := 44) C dX12_sure_36 (by decide) ?_
      obtain rfl := so hf0
      exact r_iret C dX12_sure_44
  · rw [if_pos c5] at hf0
    refine r_aload_n C dX12_sure_8 rfl ?_
    refine r_iconst (v := 1) C dX12_sure_9 (by decide) ?_
    obtain ⟨u26, e25, hf0⟩ := ob hf0
    obtain ⟨t27, h28, e29, hf0⟩ := ob2 hf0
    refine r_cV (ci := 12) (rest := []) (st2 := [.int t27]) C (s_X12_refuse e29) mk_X12_refuse rfl (ck_k e25) (by decide) im_X12_refuse sl_X12_refuse lk_X12_197 rfl rfl rfl dX12_sure_10 (Nat.le_of_ble_eq_true rfl) ⟨Nat.le_of_ble_eq_true rfl, Nat.le_of_ble_eq_true rfl⟩ ⟨Nat.le_of_ble_eq_true rfl, Nat.le_of_ble_eq_true rfl⟩ ?_
    obtain rfl := so hf0
    exact r_iret C dX12_sure_13
def f_X12_weightOf_b5 (h : aH) (v0 : Nat) (v1 : Int32) (v2 : Int64) (v4 : Int32) : Option ((Int64 × Int32) ⊕ (Int64)) := (gR h 12 v0 0).bind fun t1 => (lI h t1 (0 : Int32)).bind fun t2 => if t2 ≤ v4 then some (.inr v2) else (gR h 12 v0 0).bind fun t3 => (ck h 12 v0).bind fun _ => (f_X12_valueIn h v0 (0 : Int32) v1 v4).bind fun t4 => (lI h t3 ((32 : Int32) + t4)).bind fun t5 => (some (v2 * (Int32.toInt64 t5))).bind fun t6 => (some (v4 + (1 : Int32))).bind fun t7 => some (.inl (t6, t7))
def f_X12_weightOf_l5 (h : aH) (v0 : Nat) (v1 : Int32) (v2 : Int64) (v4 : Int32) : Option (Int64) := whileL wN (fun q : Int64 × Int32 => f_X12_weightOf_b5 h v0 v1 q.1 q.2) (v2, v4)
def f_X12_weightOf (h : aH) (v0 : Nat) (v1 : Int32) : Option (Int64) := (f_X12_weightOf_l5 h v0 v1 (1 : Int64) (0 : Int32)).bind fun t8 => some t8
theorem s_X12_weightOf {h : aH} {v0 : Nat} {v1 : Int32} {out : Int64} (hf0 : f_X12_weightOf h v0 v1 = some out) : EV 1 yX12_weightOf cX12_weightOf 5 (some .long) h [.ref v0, .int v1] (some (.long out)) h 0 0 := by
  refine EV.of (own := RX12) (lv0 := [(0, .ref v0), (1, .int v1)]) (by decide +kernel) rfl rfl (Nat.le_of_ble_eq_true rfl) ?_
  intro p l e s m args below meth c D cA B Hb C hin
  unfold f_X12_weightOf at hf0
  refine r_lconst (v := 1) C dX12_weightOf_0 (by decide) ?_
  refine r_lstore_n (lv' := [(2, .long (1 : Int64)), (0, .ref v0), (1, .int v1)]) C dX12_weightOf_1 (by decide) rfl rfl ?_
  refine r_iconst (v := 0) C dX12_weightOf_2 (by decide) ?_
  refine r_istore (lv' := [(4, .int (0 : Int32)), (2, .long (1 : Int64)), (0, .ref v0), (1, .int v1)]) C dX12_weightOf_3 (by decide) rfl rfl ?_
  obtain ⟨y1, hl5, hf0⟩ := ob hf0
  have L5 : ∀ (n : Nat) (t2 : Int64) (t3 : Int32), whileL n (fun q : Int64 × Int32 => f_X12_weightOf_b5 h v0 v1 q.1 q.2) (t2, t3) = some y1 → gW p l e (rmO 1 0 0) s m args below meth c (MQ below (eQ D cA B Hb h (some (.long out))) args s 0 0 (fun q => B ≤ q)) D cA B Hb 5 h 5 [(0, .ref v0), (1, .int v1), (2, .long t2), (4, .int t3)] [] 0 0 := by
    intro n
    induction n with
    | zero => intro t2 t3 hz; cases hz
    | succ n ih5 =>
      intro t2 t3 hz
      obtain ⟨x5, hf1, hk5⟩ := wl hz
      replace hf1 : f_X12_weightOf_b5 h v0 v1 t2 t3 = some x5 := hf1
      unfold f_X12_weightOf_b5 at hf1
      refine r_iload C dX12_weightOf_5 rfl ?_
      refine r_aload_n C dX12_weightOf_7 rfl ?_
      obtain ⟨t4, e5, hf1⟩ := ob hf1
      refine r_getR C fk_X12_7 rfl dX12_weightOf_8 e5 ?_
      refine r_iconst (v := 0) C dX12_weightOf_11 (by decide) ?_
      obtain ⟨t6, e7, hf1⟩ := ob hf1
      refine r_ldI C dX12_weightOf_12 e7 ?_
      refine r_icmp_ge (tgt := 42) C dX12_weightOf_13 (by decide) (fun c8 => ?_) (fun c8 => ?_)
      · rw [if_pos c8] at hf1
        obtain rfl := so hf1
        obtain rfl := so (show some t2 = some y1 from hk5)
        refine r_lload_n C dX12_weightOf_42 rfl ?_
        obtain rfl := so hf0
        exact r_lret C dX12_weightOf_43
      · rw [if_neg c8] at hf1
        refine r_lload_n C dX12_weightOf_16 rfl ?_
        refine r_aload_n C dX12_weightOf_17 rfl ?_
        obtain ⟨t9, e10, hf1⟩ := ob hf1
        refine r_getR C fk_X12_7 rfl dX12_weightOf_18 e10 ?_
        refine r_bipush (v := 32) C dX12_weightOf_21 (by decide) ?_
        refine r_aload_n C dX12_weightOf_23 rfl ?_
        refine r_iconst (v := 0) C dX12_weightOf_24 (by decide) ?_
        refine r_iload_n C dX12_weightOf_25 rfl ?_
        refine r_iload C dX12_weightOf_26 rfl ?_
        obtain ⟨u12, e11, hf1⟩ := ob hf1
        obtain ⟨t13, e14, hf1⟩ := ob hf1
        refine r_cV (ci := 12) (rest := [.int (32 : Int32), .ref t9, .long t2]) (st2 := [.int t13, .int (32 : Int32), .ref t9, .long t2]) C (s_X12_valueIn e14) mk_X12_valueIn rfl (ck_k e11) (by decide) im_X12_valueIn sl_X12_valueIn lk_X12_234 rfl rfl rfl dX12_weightOf_28 (Nat.le_of_ble_eq_true rfl) ⟨Nat.le_of_ble_eq_true rfl, Nat.le_of_ble_eq_true rfl⟩ ⟨Nat.le_of_ble_eq_true rfl, Nat.le_of_ble_eq_true rfl⟩ ?_
        refine r_iadd C dX12_weightOf_31 ?_
        obtain ⟨t15, e16, hf1⟩ := ob hf1
        refine r_ldI C dX12_weightOf_32 e16 ?_
        refine r_i2l C dX12_weightOf_33 ?_
        refine r_lmul C dX12_weightOf_34 ?_
        obtain ⟨t17, e18, hf1⟩ := ob hf1
        refine r_lstore_n (lv' := [(2, .long t17), (0, .ref v0), (1, .int v1), (4, .int t3)]) C dX12_weightOf_35 (by decide) e18 rfl ?_
        obtain ⟨t19, e20, hf1⟩ := ob hf1
        refine r_iinc (lv' := [(4, .int t19), (2, .long t17), (0, .ref v0), (1, .int v1)]) C dX12_weightOf_36 rfl e20 (by decide) rfl ?_
        refine r_goto (tgt := 5) C dX12_weightOf_39 (by decide) ?_
        obtain rfl := so hf1
        refine r_subk [2, 3, 1, 0] (lv' := [(0, .ref v0), (1, .int v1), (2, .long t17), (4, .int t19)]) rfl ?_
        exact ih5 t17 t19 hk5
  refine r_subk [2, 3, 1, 0] (lv' := [(0, .ref v0), (1, .int v1), (2, .long (1 : Int64)), (4, .int (0 : Int32))]) rfl ?_
  exact L5 wN (1 : Int64) (0 : Int32) hl5
def f_X12_weightBy_j81 (h : aH) (v0 : Nat) (v1 : Int32) (v2 : Int32) (v3 : Int32) (v4 : Int64) (v6 : Int32) (v8 : Int32) (s0 : Int32) (s1 : Int32) : Option ((Int32 × Int32) ⊕ (Int32)) := (some (s0 + s1)).bind fun t4 => (some (v8 + (1 : Int32))).bind fun t5 => some (.inl (t4, t5))
def f_X12_weightBy_j80 (h : aH) (v0 : Nat) (v1 : Int32) (v2 : Int32) (v3 : Int32) (v4 : Int64) (v6 : Int32) (v8 : Int32) (s0 : Int32) : Option ((Int32 × Int32) ⊕ (Int32)) := f_X12_weightBy_j81 h v0 v1 v2 v3 v4 v6 v8 s0 (0 : Int32)
def f_X12_weightBy_j69 (h : aH) (v0 : Nat) (v1 : Int32) (v2 : Int32) (v3 : Int32) (v4 : Int64) (v6 : Int32) (v8 : Int32) (s0 : Int32) : Option ((Int32 × Int32) ⊕ (Int32)) := (ck h 12 v0).bind fun _ => (f_X12_ofWitness h v0 v6 v8).bind fun t6 => f_X12_weightBy_j81 h v0 v1 v2 v3 v4 v6 v8 s0 t6
def f_X12_weightBy_b27 (h : aH) (v0 : Nat) (v1 : Int32) (v2 : Int32) (v3 : Int32) (v4 : Int64) (v6 : Int32) (v7 : Int32) (v8 : Int32) : Option ((Int32 × Int32) ⊕ (Int32)) := if (4 : Int32) ≤ v8 then some (.inr v7) else (gR h 12 v0 34).bind fun t7 => (lI h t7 (((256 : Int32) * v6) + v1)).bind fun t8 => if ((t8 >>> (v8 &&& 31)) &&& (1 : Int32)) = (1 : Int32) then if v6 = v2 then if v8 = v3 then f_X12_weightBy_j69 h v0 v1 v2 v3 v4 v6 v8 v7 else f_X12_weightBy_j80 h v0 v1 v2 v3 v4 v6 v8 v7 else f_X12_weightBy_j69 h v0 v1 v2 v3 v4 v6 v8 v7 else f_X12_weightBy_j80 h v0 v1 v2 v3 v4 v6 v8 v7
def f_X12_weightBy_l27 (h : aH) (v0 : Nat) (v1 : Int32) (v2 : Int32) (v3 : Int32) (v4 : Int64) (v6 : Int32) (v7 : Int32) (v8 : Int32) : Option (Int32) := whileL wN (fun q : Int32 × Int32 => f_X12_weightBy_b27 h v0 v1 v2 v3 v4 v6 q.1 q.2) (v7, v8)
def f_X12_weightBy_b10 (h : aH) (v0 : Nat) (v1 : Int32) (v2 : Int32) (v3 : Int32) (v4 : Int64) (v6 : Int32) : Option ((Int64 × Int32) ⊕ (Int64)) := (gR h 12 v0 0).bind fun t2 => (lI h t2 (4 : Int32)).bind fun t3 => if t3 ≤ v6 then some (.inr v4) else (f_X12_weightBy_l27 h v0 v1 v2 v3 v4 v6 (0 : Int32) (0 : Int32)).bind fun t9 => (some (v4 * (Int32.toInt64 t9))).bind fun t10 => (some (v6 + (1 : Int32))).bind fun t11 => some (.inl (t10, t11))
def f_X12_weightBy_l10 (h : aH) (v0 : Nat) (v1 : Int32) (v2 : Int32) (v3 : Int32) (v4 : Int64) (v6 : Int32) : Option (Int64) := whileL wN (fun q : Int64 × Int32 => f_X12_weightBy_b10 h v0 v1 v2 v3 q.1 q.2) (v4, v6)
def f_X12_weightBy (h : aH) (v0 : Nat) (v1 : Int32) (v2 : Int32) (v3 : Int32) : Option (Int64) := (ck h 12 v0).bind fun _ => (f_X12_weightOf h v0 v1).bind fun t1 => (f_X12_weightBy_l10 h v0 v1 v2 v3 t1 (0 : Int32)).bind fun t12 => some t12
theorem s_X12_weightBy {h : aH} {v0 : Nat} {v1 : Int32} {v2 : Int32} {v3 : Int32} {out : Int64} (hf0 : f_X12_weightBy h v0 v1 v2 v3 = some out) : EV 2 yX12_weightBy cX12_weightBy 9 (some .long) h [.ref v0, .int v1, .int v2, .int v3] (some (.long out)) h 0 0 := by
  refine EV.of (own := RX12) (lv0 := [(0, .ref v0), (1, .int v1), (2, .int v2), (3, .int v3)]) (by decide +kernel) rfl rfl (Nat.le_of_ble_eq_true rfl) ?_
  intro p l e s m args below meth c D cA B Hb C hin
  unfold f_X12_weightBy at hf0
  refine r_aload_n C dX12_weightBy_0 rfl ?_
  refine r_iload_n C dX12_weightBy_1 rfl ?_
  obtain ⟨u2, e1, hf0⟩ := ob hf0
  obtain ⟨t3, e4, hf0⟩ := ob hf0
  refine r_cV (ci := 12) (rest := []) (st2 := [.long t3]) C (s_X12_weightOf e4) mk_X12_weightOf rfl (ck_k e1) (by decide) im_X12_weightOf sl_X12_weightOf lk_X12_397 rfl rfl rfl dX12_weightBy_2 (Nat.le_of_ble_eq_true rfl) ⟨Nat.le_of_ble_eq_true rfl, Nat.le_of_ble_eq_true rfl⟩ ⟨Nat.le_of_ble_eq_true rfl, Nat.le_of_ble_eq_true rfl⟩ ?_
  refine r_lstore (lv' := [(4, .long t3), (0, .ref v0), (1, .int v1), (2, .int v2), (3, .int v3)]) C dX12_weightBy_5 (by decide) rfl rfl ?_
  refine r_iconst (v := 0) C dX12_weightBy_7 (by decide) ?_
  refine r_istore (lv' := [(6, .int (0 : Int32)), (4, .long t3), (0, .ref v0), (1, .int v1), (2, .int v2), (3, .int v3)]) C dX12_weightBy_8 (by decide) rfl rfl ?_
  obtain ⟨y5, hl10, hf0⟩ := ob hf0
  have L10 : ∀ (n : Nat) (t6 : Int64) (t7 : Int32), whileL n (fun q : Int64 × Int32 => f_X12_weightBy_b10 h v0 v1 v2 v3 q.1 q.2) (t6, t7) = some y5 → gW p l e (rmO 2 0 0) s m args below meth c (MQ below (eQ D cA B Hb h (some (.long out))) args s 0 0 (fun q => B ≤ q)) D cA B Hb 9 h 10 [(0, .ref v0), (1, .int v1), (2, .int v2), (3, .int v3), (4, .long t6), (6, .int t7)] [] 0 0 := by
    intro n
    induction n with
    | zero => intro t6 t7 hz; cases hz
    | succ n ih10 =>
      intro t6 t7 hz
      obtain ⟨x10, hf1, hk10⟩ := wl hz
      replace hf1 : f_X12_weightBy_b10 h v0 v1 v2 v3 t6 t7 = some x10 := hf1
      unfold f_X12_weightBy_b10 at hf1
      refine r_iload C dX12_weightBy_10 rfl ?_
      refine r_aload_n C dX12_weightBy_12 rfl ?_
      obtain ⟨t8, e9, hf1⟩ := ob hf1
      refine r_getR C fk_X12_7 rfl dX12_weightBy_13 e9 ?_
      refine r_iconst (v := 4) C dX12_weightBy_16 (by decide) ?_
      obtain ⟨t10, e11, hf1⟩ := ob hf1
      refine r_ldI C dX12_weightBy_17 e11 ?_
      refine r_icmp_ge (tgt := 104) C dX12_weightBy_18 (by decide) (fun c12 => ?_) (fun c12 => ?_)
      · rw [if_pos c12] at hf1
        obtain rfl := so hf1
        obtain rfl := so (show some t6 = some y5 from hk10)
        refine r_lload C dX12_weightBy_104 rfl ?_
        obtain rfl := so hf0
        exact r_lret C dX12_weightBy_106
      · rw [if_neg c12] at hf1
        refine r_iconst (v := 0) C dX12_weightBy_21 (by decide) ?_
        refine r_istore (lv' := [(7, .int (0 : Int32)), (0, .ref v0), (1, .int v1), (2, .int v2), (3, .int v3), (4, .long t6), (6, .int t7)]) C dX12_weightBy_22 (by decide) rfl rfl ?_
        refine r_iconst (v := 0) C dX12_weightBy_24 (by decide) ?_
        refine r_istore (lv' := [(8, .int (0 : Int32)), (7, .int (0 : Int32)), (0, .ref v0), (1, .int v1), (2, .int v2), (3, .int v3), (4, .long t6), (6, .int t7)]) C dX12_weightBy_25 (by decide) rfl rfl ?_
        obtain ⟨y13, hl27, hf1⟩ := ob hf1
        have L27 : ∀ (n : Nat) (t14 : Int32) (t15 : Int32), whileL n (fun q : Int32 × Int32 => f_X12_weightBy_b27 h v0 v1 v2 v3 t6 t7 q.1 q.2) (t14, t15) = some y13 → gW p l e (rmO 2 0 0) s m args below meth c (MQ below (eQ D cA B Hb h (some (.long out))) args s 0 0 (fun q => B ≤ q)) D cA B Hb 9 h 27 [(0, .ref v0), (1, .int v1), (2, .int v2), (3, .int v3), (4, .long t6), (6, .int t7), (7, .int t14), (8, .int t15)] [] 0 0 := by
          intro n
          induction n with
          | zero => intro t14 t15 hz; cases hz
          | succ n ih27 =>
            intro t14 t15 hz
            obtain ⟨x27, hf2, hk27⟩ := wl hz
            replace hf2 : f_X12_weightBy_b27 h v0 v1 v2 v3 t6 t7 t14 t15 = some x27 := hf2
            unfold f_X12_weightBy_b27 at hf2
            have J81 : ∀ (t16 : Int32) (t17 : Int32) (t18 : Int32), f_X12_weightBy_j81 h v0 v1 v2 v3 t6 t7 t16 t17 t18 = some x27 → gW p l e (rmO 2 0 0) s m args below meth c (MQ below (eQ D cA B Hb h (some (.long out))) args s 0 0 (fun q => B ≤ q)) D cA B Hb 9 h 81 [(0, .ref v0), (1, .int v1), (2, .int v2), (3, .int v3), (4, .long t6), (6, .int t7), (8, .int t16)] [.int t18, .int t17] 0 0 := by
              intro t16 t17 t18 hf2
              unfold f_X12_weightBy_j81 at hf2
              refine r_iadd C dX12_weightBy_81 ?_
              obtain ⟨t19, e20, hf2⟩ := ob hf2
              refine r_istore (lv' := [(7, .int t19), (0, .ref v0), (1, .int v1), (2, .int v2), (3, .int v3), (4, .long t6), (6, .int t7), (8, .int t16)]) C dX12_weightBy_82 (by decide) e20 rfl ?_
              obtain ⟨t21, e22, hf2⟩ := ob hf2
              refine r_iinc (lv' := [(8, .int t21), (7, .int t19), (0, .ref v0), (1, .int v1), (2, .int v2), (3, .int v3), (4, .long t6), (6, .int t7)]) C dX12_weightBy_84 rfl e22 (by decide) rfl ?_
              refine r_goto (tgt := 27) C dX12_weightBy_87 (by decide) ?_
              obtain rfl := so hf2
              refine r_subk [2, 3, 4, 5, 6, 7, 1, 0] (lv' := [(0, .ref v0), (1, .int v1), (2, .int v2), (3, .int v3), (4, .long t6), (6, .int t7), (7, .int t19), (8, .int t21)]) rfl ?_
              exact ih27 t19 t21 hk27
            have J80 : ∀ (t23 : Int32) (t24 : Int32), f_X12_weightBy_j80 h v0 v1 v2 v3 t6 t7 t23 t24 = some x27 → gW p l e (rmO 2 0 0) s m args below meth c (MQ below (eQ D cA B Hb h (some (.long out))) args s 0 0 (fun q => B ≤ q)) D cA B Hb 9 h 80 [(0, .ref v0), (1, .int v1), (2, .int v2), (3, .int v3), (4, .long t6), (6, .int t7), (8, .int t23)] [.int t24] 0 0 := by
              intro t23 t24 hf2
              unfold f_X12_weightBy_j80 at hf2
              refine r_iconst (v := 0) C dX12_weightBy_80 (by decide) ?_
              exact J81 t23 t24 (0 : Int32) hf2
            have J69 : ∀ (t25 : Int32) (t26 : Int32), f_X12_weightBy_j69 h v0 v1 v2 v3 t6 t7 t25 t26 = some x27 → gW p l e (rmO 2 0 0) s m args below meth c (MQ below (eQ D cA B Hb h (some (.long out))) args s 0 0 (fun q => B ≤ q)) D cA B Hb 9 h 69 [(0, .ref v0), (1, .int v1), (2, .int v2), (3, .int v3), (4, .long t6), (6, .int t7), (8, .int t25)] [.int t26] 0 0 := by
              intro t25 t26 hf2
              unfold f_X12_weightBy_j69 at hf2
              refine r_aload_n C dX12_weightBy_69 rfl ?_
              refine r_iload C dX12_weightBy_70 rfl ?_
              refine r_iload C dX12_weightBy_72 rfl ?_
              obtain ⟨u28, e27, hf2⟩ := ob hf2
              obtain ⟨t29, e30, hf2⟩ := ob hf2
              refine r_cV (ci := 12) (rest := [.int t26]) (st2 := [.int t29, .int t26]) C (s_X12_ofWitness e30) mk_X12_ofWitness rfl (ck_k e27) (by decide) im_X12_ofWitness sl_X12_ofWitness lk_X12_343 rfl rfl rfl dX12_weightBy_74 (Nat.le_of_ble_eq_true rfl) ⟨Nat.le_of_ble_eq_true rfl, Nat.le_of_ble_eq_true rfl⟩ ⟨Nat.le_of_ble_eq_true rfl, Nat.le_of_ble_eq_true rfl⟩ ?_
              refine r_goto (tgt := 81) C dX12_weightBy_77 (by decide) ?_
              exact J81 t25 t26 t29 hf2
            refine r_iload C dX12_weightBy_27 rfl ?_
            refine r_iconst (v := 4) C dX12_weightBy_29 (by decide) ?_
            refine r_icmp_ge (tgt := 90) C dX12_weightBy_30 (by decide) (fun c31 => ?_) (fun c31 => ?_)
            · rw [if_pos c31] at hf2
              obtain rfl := so hf2
              obtain rfl := so (show some t14 = some y13 from hk27)
              refine r_lload C dX12_weightBy_90 rfl ?_
              refine r_iload C dX12_weightBy_92 rfl ?_
              refine r_i2l C dX12_weightBy_94 ?_
              refine r_lmul C dX12_weightBy_95 ?_
              obtain ⟨t32, e33, hf1⟩ := ob hf1
              refine r_lstore (lv' := [(4, .long t32), (0, .ref v0), (1, .int v1), (2, .int v2), (3, .int v3), (6, .int t7), (7, .int t14), (8, .int t15)]) C dX12_weightBy_96 (by decide) e33 rfl ?_
              obtain ⟨t34, e35, hf1⟩ := ob hf1
              refine r_iinc (lv' := [(6, .int t34), (4, .long t32), (0, .ref v0), (1, .int v1), (2, .int v2), (3, .int v3), (7, .int t14), (8, .int t15)]) C dX12_weightBy_98 rfl e35 (by decide) rfl ?_
              refine r_goto (tgt := 10) C dX12_weightBy_101 (by decide) ?_
              obtain rfl := so hf1
              refine r_subk [2, 3, 4, 5, 1, 0] (lv' := [(0, .ref v0), (1, .int v1), (2, .int v2), (3, .int v3), (4, .long t32), (6, .int t34)]) rfl ?_
              exact ih10 t32 t34 hk10
            · rw [if_neg c31] at hf2
              refine r_iload C dX12_weightBy_33 rfl ?_
              refine r_aload_n C dX12_weightBy_35 rfl ?_
              obtain ⟨t36, e37, hf2⟩ := ob hf2
              refine r_getR C fk_X12_69 rfl dX12_weightBy_36 e37 ?_
              refine r_sipush (v := 256) C dX12_weightBy_39 (by decide) ?_
              refine r_iload C dX12_weightBy_42 rfl ?_
              refine r_imul C dX12_weightBy_44 ?_
              refine r_iload_n C dX12_weightBy_45 rfl ?_
              refine r_iadd C dX12_weightBy_46 ?_
              obtain ⟨t38, e39, hf2⟩ := ob hf2
              refine r_ldI C dX12_weightBy_47 e39 ?_
              refine r_iload C dX12_weightBy_48 rfl ?_
              refine r_ishr C dX12_weightBy_50 ?_
              refine r_iconst (v := 1) C dX12_weightBy_51 (by decide) ?_
              refine r_iand C dX12_weightBy_52 ?_
              refine r_iconst (v := 1) C dX12_weightBy_53 (by decide) ?_
              refine r_icmp_ne (tgt := 80) C dX12_weightBy_54 (by decide) (fun c40 => ?_) (fun c40 => ?_)
              · rw [if_neg c40] at hf2
                refine r_subk [0, 1, 2, 3, 4, 5, 7] (lv' := [(0, .ref v0), (1, .int v1), (2, .int v2), (3, .int v3), (4, .long t6), (6, .int t7), (8, .int t15)]) rfl ?_
                exact J80 t15 t14 hf2
              · rw [if_pos c40] at hf2
                refine r_iload C dX12_weightBy_57 rfl ?_
                refine r_iload_n C dX12_weightBy_59 rfl ?_
                refine r_icmp_ne (tgt := 69) C dX12_weightBy_60 (by decide) (fun c41 => ?_) (fun c41 => ?_)
                · rw [if_neg c41] at hf2
                  refine r_subk [0, 1, 2, 3, 4, 5, 7] (lv' := [(0, .ref v0), (1, .int v1), (2, .int v2), (3, .int v3), (4, .long t6), (6, .int t7), (8, .int t15)]) rfl ?_
                  exact J69 t15 t14 hf2
                · rw [if_pos c41] at hf2
                  refine r_iload C dX12_weightBy_63 rfl ?_
                  refine r_iload_n C dX12_weightBy_65 rfl ?_
                  refine r_icmp_ne (tgt := 80) C dX12_weightBy_66 (by decide) (fun c42 => ?_) (fun c42 => ?_)
                  · rw [if_neg c42] at hf2
                    refine r_subk [0, 1, 2, 3, 4, 5, 7] (lv' := [(0, .ref v0), (1, .int v1), (2, .int v2), (3, .int v3), (4, .long t6), (6, .int t7), (8, .int t15)]) rfl ?_
                    exact J80 t15 t14 hf2
                  · rw [if_pos c42] at hf2
                    refine r_subk [0, 1, 2, 3, 4, 5, 7] (lv' := [(0, .ref v0), (1, .int v1), (2, .int v2), (3, .int v3), (4, .long t6), (6, .int t7), (8, .int t15)]) rfl ?_
                    exact J69 t15 t14 hf2
        refine r_subk [2, 3, 4, 5, 6, 7, 1, 0] (lv' := [(0, .ref v0), (1, .int v1), (2, .int v2), (3, .int v3), (4, .long t6), (6, .int t7), (7, .int (0 : Int32)), (8, .int (0 : Int32))]) rfl ?_
        exact L27 wN (0 : Int32) (0 : Int32) hl27
  refine r_subk [2, 3, 4, 5, 1, 0] (lv' := [(0, .ref v0), (1, .int v1), (2, .int v2), (3, .int v3), (4, .long t3), (6, .int (0 : Int32))]) rfl ?_
  exact L10 wN t3 (0 : Int32) hl10
def f_X12_weightAll_j55 (h : aH) (v0 : Nat) (v1 : Int32) (v2 : Int32) (v3 : Int32) (v4 : Int64) (v6 : Int32) : Option ((Int64 × Int32) ⊕ (Int64)) := (some (v6 + (1 : Int32))).bind fun t1 => some (.inl (v4, t1))
def f_X12_weightAll_j42 (h : aH) (v0 : Nat) (v1 : Int32) (v2 : Int32) (v3 : Int32) (v4 : Int64) (v6 : Int32) : Option ((Int64 × Int32) ⊕ (Int64)) := (ck h 12 v0).bind fun _ => (f_X12_weightBy h v0 v6 v1 v2).bind fun t2 => (some (v4 + t2)).bind fun t3 => f_X12_weightAll_j55 h v0 v1 v2 v3 t3 v6
def f_X12_weightAll_b6 (h : aH) (v0 : Nat) (v1 : Int32) (v2 : Int32) (v3 : Int32) (v4 : Int64) (v6 : Int32) : Option ((Int64 × Int32) ⊕ (Int64)) := (gR h 12 v0 0).bind fun t4 => (lI h t4 (2 : Int32)).bind fun t5 => if t5 ≤ v6 then some (.inr v4) else (ck h 12 v0).bind fun _ => (f_X12_isLeftAt h v0 (0 : Int32) v6).bind fun t6 => if t6 = 0 then f_X12_weightAll_j55 h v0 v1 v2 v3 v4 v6 else if v3 = (-1 : Int32) then f_X12_weightAll_j42 h v0 v1 v2 v3 v4 v6 else (ck h 12 v0).bind fun _ => (f_X12_isIn h v0 v3 v6).bind fun t7 => if t7 = 0 then f_X12_weightAll_j55 h v0 v1 v2 v3 v4 v6 else f_X12_weightAll_j42 h v0 v1 v2 v3 v4 v6
def f_X12_weightAll_l6 (h : aH) (v0 : Nat) (v1 : Int32) (v2 : Int32) (v3 : Int32) (v4 : Int64) (v6 : Int32) : Option (Int64) := whileL wN (fun q : Int64 × Int32 => f_X12_weightAll_b6 h v0 v1 v2 v3 q.1 q.2) (v4, v6)
def f_X12_weightAll (h : aH) (v0 : Nat) (v1 : Int32) (v2 : Int32) (v3 : Int32) : Option (Int64) := (f_X12_weightAll_l6 h v0 v1 v2 v3 (0 : Int64) (0 : Int32)).bind fun t8 => some t8
theorem s_X12_weightAll {h : aH} {v0 : Nat} {v1 : Int32} {v2 : Int32} {v3 : Int32} {out : Int64} (hf0 : f_X12_weightAll h v0 v1 v2 v3 = some out) : EV 3 yX12_weightAll cX12_weightAll 7 (some .long) h [.ref v0, .int v1, .int v2, .int v3] (some (.long out)) h 0 0 := by
  refine EV.of (own := RX12) (lv0 := [(0, .ref v0), (1, .int v1), (2, .int v2), (3, .int v3)]) (by decide +kernel) rfl rfl (Nat.le_of_ble_eq_true rfl) ?_
  intro p l e s m args below meth c D cA B Hb C hin
  unfold f_X12_weightAll at hf0
  refine r_lconst (v := 0) C dX12_weightAll_0 (by decide) ?_
  refine r_lstore (lv' := [(4, .long (0 : Int64)), (0, .ref v0), (1, .int v1), (2, .int v2), (3, .int v3)]) C dX12_weightAll_1 (by decide) rfl rfl ?_
  refine r_iconst (v := 0) C dX12_weightAll_3 (by decide) ?_
  refine r_istore (lv' := [(6, .int (0 : Int32)), (4, .long (0 : Int64)), (0, .ref v0), (1, .int v1), (2, .int v2), (3, .int v3)]) C dX12_weightAll_4 (by decide) rfl rfl ?_
  obtain ⟨y1, hl6, hf0⟩ := ob hf0
  have L6 : ∀ (n : Nat) (t2 : Int64) (t3 : Int32), whileL n (fun q : Int64 × Int32 => f_X12_weightAll_b6 h v0 v1 v2 v3 q.1 q.2) (t2, t3) = some y1 → gW p l e (rmO 3 0 0) s m args below meth c (MQ below (eQ D cA B Hb h (some (.long out))) args s 0 0 (fun q => B ≤ q)) D cA B Hb 7 h 6 [(0, .ref v0), (1, .int v1), (2, .int v2), (3, .int v3), (4, .long t2), (6, .int t3)] [] 0 0 := by
    intro n
    induction n with
    | zero => intro t2 t3 hz; cases hz
    | succ n ih6 =>
      intro t2 t3 hz
      obtain ⟨x6, hf1, hk6⟩ := wl hz
      replace hf1 : f_X12_weightAll_b6 h v0 v1 v2 v3 t2 t3 = some x6 := hf1
      unfold f_X12_weightAll_b6 at hf1
      have J55 : ∀ (t4 : Int64) (t5 : Int32), f_X12_weightAll_j55 h v0 v1 v2 v3 t4 t5 = some x6 → gW p l e (rmO 3 0 0) s m args below meth c (MQ below (eQ D cA B Hb h (some (.long out))) args s 0 0 (fun q => B ≤ q)) D cA B Hb 7 h 55 [(0, .ref v0), (1, .int v1), (2, .int v2), (3, .int v3), (4, .long t4), (6, .int t5)] [] 0 0 := by
        intro t4 t5 hf1
        unfold f_X12_weightAll_j55 at hf1
        obtain ⟨t6, e7, hf1⟩ := ob hf1
        refine r_iinc (lv' := [(6, .int t6), (0, .ref v0), (1, .int v1), (2, .int v2), (3, .int v3), (4, .long t4)]) C dX12_weightAll_55 rfl e7 (by decide) rfl ?_
        refine r_goto (tgt := 6) C dX12_weightAll_58 (by decide) ?_
        obtain rfl := so hf1
        refine r_subk [1, 2, 3, 4, 5, 0] (lv' := [(0, .ref v0), (1, .int v1), (2, .int v2), (3, .int v3), (4, .long t4), (6, .int t6)]) rfl ?_
        exact ih6 t4 t6 hk6
      have J42 : ∀ (t8 : Int64) (t9 : Int32), f_X12_weightAll_j42 h v0 v1 v2 v3 t8 t9 = some x6 → gW p l e (rmO 3 0 0) s m args below meth c (MQ below (eQ D cA B Hb h (some (.long out))) args s 0 0 (fun q => B ≤ q)) D cA B Hb 7 h 42 [(0, .ref v0), (1, .int v1), (2, .int v2), (3, .int v3), (4, .long t8), (6, .int t9)] [] 0 0 := by
        intro t8 t9 hf1
        unfold f_X12_weightAll_j42 at hf1
        refine r_lload C dX12_weightAll_42 rfl ?_
        refine r_aload_n C dX12_weightAll_44 rfl ?_
        refine r_iload C dX12_weightAll_45 rfl ?_
        refine r_iload_n C dX12_weightAll_47 rfl ?_
        refine r_iload_n C dX12_weightAll_48 rfl ?_
        obtain ⟨u11, e10, hf1⟩ := ob hf1
        obtain ⟨t12, e13, hf1⟩ := ob hf1
        refine r_cV (ci := 12) (rest := [.long t8]) (st2 := [.long t12, .long t8]) C (s_X12_weightBy e13) mk_X12_weightBy rfl (ck_k e10) (by decide) im_X12_weightBy sl_X12_weightBy lk_X12_401 rfl rfl rfl dX12_weightAll_49 (Nat.le_of_ble_eq_true rfl) ⟨Nat.le_of_ble_eq_true rfl, Nat.le_of_ble_eq_true rfl⟩ ⟨Nat.le_of_ble_eq_true rfl, Nat.le_of_ble_eq_true rfl⟩ ?_
        refine r_ladd C dX12_weightAll_52 ?_
        obtain ⟨t14, e15, hf1⟩ := ob hf1
        refine r_lstore (lv' := [(4, .long t14), (0, .ref v0), (1, .int v1), (2, .int v2), (3, .int v3), (6, .int t9)]) C dX12_weightAll_53 (by decide) e15 rfl ?_
        refine r_subk [1, 2, 3, 4, 0, 5] (lv' := [(0, .ref v0), (1, .int v1), (2, .int v2), (3, .int v3), (4, .long t14), (6, .int t9)]) rfl ?_
        exact J55 t14 t9 hf1
      refine r_iload C dX12_weightAll_6 rfl ?_
      refine r_aload_n C dX12_weightAll_8 rfl ?_
      obtain ⟨t16, e17, hf1⟩ := ob hf1
      refine r_getR C fk_X12_7 rfl dX12_weightAll_9 e17 ?_
      refine r_iconst (v := 2) C dX12_weightAll_12 (by decide) ?_
      obtain ⟨t18, e19, hf1⟩ := ob hf1
      refine r_ldI C dX12_weightAll_13 e19 ?_
      refine r_icmp_ge (tgt := 61) C dX12_weightAll_14 (by decide) (fun c20 => ?_) (fun c20 => ?_)
      · rw [if_pos c20] at hf1
        obtain rfl := so hf1
        obtain rfl := so (show some t2 = some y1 from hk6)
        refine r_lload C dX12_weightAll_61 rfl ?_
        obtain rfl := so hf0
        exact r_lret C dX12_weightAll_63
      · rw [if_neg c20] at hf1
        refine r_aload_n C dX12_weightAll_17 rfl ?_
        refine r_iconst (v := 0) C dX12_weightAll_18 (by decide) ?_
        refine r_iload C dX12_weightAll_19 rfl ?_
        obtain ⟨u22, e21, hf1⟩ := ob hf1
        obtain ⟨t23, e24, hf1⟩ := ob hf1
        refine r_cV (ci := 12) (rest := []) (st2 := [.int t23]) C (s_X12_isLeftAt e24) mk_X12_isLeftAt rfl (ck_k e21) (by decide) im_X12_isLeftAt sl_X12_isLeftAt lk_X12_381 rfl rfl rfl dX12_weightAll_21 (Nat.le_of_ble_eq_true rfl) ⟨Nat.le_of_ble_eq_true rfl, Nat.le_of_ble_eq_true rfl⟩ ⟨Nat.le_of_ble_eq_true rfl, Nat.le_of_ble_eq_true rfl⟩ ?_
        refine r_ifeq (tgt := 55) C dX12_weightAll_24 (by decide) (fun c25 => ?_) (fun c25 => ?_)
        · rw [if_pos c25] at hf1
          exact J55 t2 t3 hf1
        · rw [if_neg c25] at hf1
          refine r_iload_n C dX12_weightAll_27 rfl ?_
          refine r_iconst (v := -1) C dX12_weightAll_28 (by decide) ?_
          refine r_icmp_eq (tgt := 42) C dX12_weightAll_29 (by decide) (fun c26 => ?_) (fun c26 => ?_)
          · rw [if_pos c26] at hf1
            exact J42 t2 t3 hf1
          · rw [if_neg c26] at hf1
            refine r_aload_n C dX12_weightAll_32 rfl ?_
            refine r_iload_n C dX12_weightAll_33 rfl ?_
            refine r_iload C dX12_weightAll_34 rfl ?_
            obtain ⟨u28, e27, hf1⟩ := ob hf1
            obtain ⟨t29, e30, hf1⟩ := ob hf1
            refine r_cV (ci := 12) (rest := []) (st2 := [.int t29]) C (s_X12_isIn e30) mk_X12_isIn rfl (ck_k e27) (by decide) im_X12_isIn sl_X12_isIn lk_X12_337 rfl rfl rfl dX12_weightAll_36 (Nat.le_of_ble_eq_true rfl) ⟨Nat.le_of_ble_eq_true rfl, Nat.le_of_ble_eq_true rfl⟩ ⟨Nat.le_of_ble_eq_true rfl, Nat.le_of_ble_eq_true rfl⟩ ?_
            refine r_ifeq (tgt := 55) C dX12_weightAll_39 (by decide) (fun c31 => ?_) (fun c31 => ?_)
            · rw [if_pos c31] at hf1
              exact J55 t2 t3 hf1
            · rw [if_neg c31] at hf1
              exact J42 t2 t3 hf1
  refine r_subk [2, 3, 4, 5, 1, 0] (lv' := [(0, .ref v0), (1, .int v1), (2, .int v2), (3, .int v3), (4, .long (0 : Int64)), (6, .int (0 : Int32))]) rfl ?_
  exact L6 wN (0 : Int64) (0 : Int32) hl6
def f_X12_chance (h : aH) (v0 : Nat) (v1 : Int32) : Option (Int32 × aH) := (ck h 12 v0).bind fun _ => (f_X12_isQuestion h v0 v1).bind fun t1 => if t1 = 0 then (ck h 12 v0).bind fun _ => bd2 (f_X12_is h v0 (1 : Int32)) fun t11 h12 => (rZ t11).bind fun t13 => some (t13, h12) else (ck h 12 v0).bind fun _ => (f_X12_fitsAll h v0).bind fun h2 => (ck h2 12 v0).bind fun _ => (f_X12_weightAll h2 v0 (-1 : Int32) (0 : Int32) (-1 : Int32)).bind fun t3 => if (lg_cmp t3 (0 : Int64)) = 0 then (ck h2 12 v0).bind fun _ => bd2 (f_X12_is h2 v0 (6 : Int32)) fun t8 h9 => (rZ t8).bind fun t10 => some (t10, h9) else (ck h2 12 v0).bind fun _ => (f_X12_weightAll h2 v0 (-1 : Int32) (0 : Int32) v1).bind fun t4 => (ck h2 12 v0).bind fun _ => bd2 (f_X12_tellsBy h2 v0 t4 t3) fun t5 h6 => (rZ t5).bind fun t7 => some (t7, h6)
theorem s_X12_chance {h : aH} {v0 : Nat} {v1 : Int32} {out : Int32 × aH} (hf0 : f_X12_chance h v0 v1 = some out) : EV 4 yX12_chance cX12_chance 4 (some .boolean) h [.ref v0, .int v1] (some (.int out.1)) out.2 0 0 := by
  refine EV.of (own := RX12) (lv0 := [(0, .ref v0), (1, .int v1)]) (by decide +kernel) rfl rfl (Nat.le_of_ble_eq_true rfl) ?_
  intro p l e s m args below meth c D cA B Hb C hin
  unfold f_X12_chance at hf0
  refine r_aload_n C dX12_chance_0 rfl ?_
  refine r_iload_n C dX12_chance_1 rfl ?_
  obtain ⟨u2, e1, hf0⟩ := ob hf0
  obtain ⟨t3, e4, hf0⟩ := ob hf0
  refine r_cV (ci := 12) (rest := []) (st2 := [.int t3]) C (s_X12_isQuestion e4) mk_X12_isQuestion rfl (ck_k e1) (by decide) im_X12_isQuestion sl_X12_isQuestion lk_X12_334 rfl rfl rfl dX12_chance_2 (Nat.le_of_ble_eq_true rfl) ⟨Nat.le_of_ble_eq_true rfl, Nat.le_of_ble_eq_true rfl⟩ ⟨Nat.le_of_ble_eq_true rfl, Nat.le_of_ble_eq_true rfl⟩ ?_
  refine r_ifne (tgt := 14) C dX12_chance_5 (by decide) (fun c5 => ?_) (fun c5 => ?_)
  · rw [if_neg c5] at hf0
    refine r_aload_n C dX12_chance_14 rfl ?_
    obtain ⟨u7, e6, hf0⟩ := ob hf0
    obtain ⟨h8, e9, hf0⟩ := ob hf0
    refine r_cV (ci := 12) (rest := []) (st2 := []) C (s_X12_fitsAll e9) mk_X12_fitsAll rfl (ck_k e6) (by decide) im_X12_fitsAll sl_X12_fitsAll lk_X12_388 rfl rfl rfl dX12_chance_15 (Nat.le_of_ble_eq_true rfl) ⟨Nat.le_of_ble_eq_true rfl, Nat.le_of_ble_eq_true rfl⟩ ⟨Nat.le_of_ble_eq_true rfl, Nat.le_of_ble_eq_true rfl⟩ ?_
    refine r_aload_n C dX12_chance_18 rfl ?_
    refine r_iconst (v := -1) C dX12_chance_19 (by decide) ?_
    refine r_iconst (v := 0) C dX12_chance_20 (by decide) ?_
    refine r_iconst (v := -1) C dX12_chance_21 (by decide) ?_
    obtain ⟨u11, e10, hf0⟩ := ob hf0
    obtain ⟨t12, e13, hf0⟩ := ob hf0
    refine r_cV (ci := 12) (rest := []) (st2 := [.long t12]) C (s_X12_weightAll e13) mk_X12_weightAll rfl (ck_k e10) (by decide) im_X12_weightAll sl_X12_weightAll lk_X12_405 rfl rfl rfl dX12_chance_22 (Nat.le_of_ble_eq_true rfl) ⟨Nat.le_of_ble_eq_true rfl, Nat.le_of_ble_eq_true rfl⟩ ⟨Nat.le_of_ble_eq_true rfl, Nat.le_of_ble_eq_true rfl⟩ ?_
    refine r_lstore_n (lv' := [(2, .long t12), (0, .ref v0), (1, .int v1)]) C dX12_chance_25 (by decide) rfl rfl ?_
    refine r_lload_n C dX12_chance_26 rfl ?_
    refine r_lconst (v := 0) C dX12_chance_27 (by decide) ?_
    refine r_lcmp C dX12_chance_28 ?_
    refine r_ifne (tgt := 41) C dX12_chance_29 (by decide) (fun c14 => ?_) (fun c14 => ?_)
    · rw [if_neg c14] at hf0
      refine r_aload_n C dX12_chance_41 rfl ?_
      refine r_aload_n C dX12_chance_42 rfl ?_
      refine r_iconst (v := -1) C dX12_chance_43 (by decide) ?_
      refine r_iconst (v := 0) C dX12_chance_44 (by decide) ?_
      refine r_iload_n C dX12_chance_45 rfl ?_
      obtain ⟨u16, e15, hf0⟩ := ob hf0
      obtain ⟨t17, e18, hf0⟩ := ob hf0
      refine r_cV (ci := 12) (rest := [.ref v0]) (st2 := [.long t17, .ref v0]) C (s_X12_weightAll e18) mk_X12_weightAll rfl (ck_k e15) (by decide) im_X12_weightAll sl_X12_weightAll lk_X12_405 rfl rfl rfl dX12_chance_46 (Nat.le_of_ble_eq_true rfl) ⟨Nat.le_of_ble_eq_true rfl, Nat.le_of_ble_eq_true rfl⟩ ⟨Nat.le_of_ble_eq_true rfl, Nat.le_of_ble_eq_true rfl⟩ ?_
      refine r_lload_n C dX12_chance_49 rfl ?_
      obtain ⟨u20, e19, hf0⟩ := ob hf0
      obtain ⟨t21, h22, e23, hf0⟩ := ob2 hf0
      refine r_cV (ci := 12) (rest := []) (st2 := [.int t21]) C (s_X12_tellsBy e23) mk_X12_tellsBy rfl (ck_k e19) (by decide) im_X12_tellsBy sl_X12_tellsBy lk_X12_408 rfl rfl rfl dX12_chance_50 (Nat.le_of_ble_eq_true rfl) ⟨Nat.le_of_ble_eq_true rfl, Nat.le_of_ble_eq_true rfl⟩ ⟨Nat.le_of_ble_eq_true rfl, Nat.le_of_ble_eq_true rfl⟩ ?_
      obtain ⟨t24, e25, hf0⟩ := ob hf0
      obtain ⟨rfl, e25z⟩ := rZ_k e25
      obtain rfl := so hf0
      exact r_zret C dX12_chance_53 e25z
    · rw [if_pos c14] at hf0
      refine r_aload_n C dX12_chance_32 rfl ?_
      refine r_bipush (v := 6) C dX12_chance_33 (by decide) ?_
      obtain ⟨u27, e26, hf0⟩ := ob hf0
      obtain ⟨t28, h29, e30, hf0⟩ := ob2 hf0
      refine r_cV (ci := 12) (rest := []) (st2 := [.int t28]) C (s_X12_is e30) mk_X12_is rfl (ck_k e26) (by decide) im_X12_is sl_X12_is lk_X12_109 rfl rfl rfl dX12_chance_35 (Nat.le_of_ble_eq_true rfl) ⟨Nat.le_of_ble_eq_true rfl, Nat.le_of_ble_eq_true rfl⟩ ⟨Nat.le_of_ble_eq_true rfl, Nat.le_of_ble_eq_true rfl⟩ ?_
      refine r_goto (tgt := 53) C dX12_chance_38 (by decide) ?_
      obtain ⟨t31, e32, hf0⟩ := ob hf0
      obtain ⟨rfl, e32z⟩ := rZ_k e32
      obtain rfl := so hf0
      exact r_zret C dX12_chance_53 e32z
  · rw [if_pos c5] at hf0
    refine r_aload_n C dX12_chance_8 rfl ?_
    refine r_iconst (v := 1) C dX12_chance_9 (by decide) ?_
    obtain ⟨u34, e33, hf0⟩ := ob hf0
    obtain ⟨t35, h36, e37, hf0⟩ := ob2 hf0
    refine r_cV (ci := 12) (rest := []) (st2 := [.int t35]) C (s_X12_is e37) mk_X12_is rfl (ck_k e33) (by decide) im_X12_is sl_X12_is lk_X12_109 rfl rfl rfl dX12_chance_10 (Nat.le_of_ble_eq_true rfl) ⟨Nat.le_of_ble_eq_true rfl, Nat.le_of_ble_eq_true rfl⟩ ⟨Nat.le_of_ble_eq_true rfl, Nat.le_of_ble_eq_true rfl⟩ ?_
    obtain ⟨t38, e39, hf0⟩ := ob hf0
    obtain ⟨rfl, e39z⟩ := rZ_k e39
    obtain rfl := so hf0
    exact r_zret C dX12_chance_13 e39z
def f_X12_trust_j15 (h : aH) (v0 : Nat) : Option (Int32 × aH) := (ck h 12 v0).bind fun _ => bd2 (f_X12_is h v0 (1 : Int32)) fun t1 h2 => (rZ t1).bind fun t3 => some (t3, h2)
def f_X12_trust (h : aH) (v0 : Nat) (v1 : Int32) (v2 : Int32) : Option (Int32 × aH) := (ck h 12 v0).bind fun _ => (f_X12_isWitness h v0 v1).bind fun t4 => if t4 = 0 then f_X12_trust_j15 h v0 else (f_X12_isKind h v2).bind fun t5 => if t5 = 0 then f_X12_trust_j15 h v0 else (ck h 12 v0).bind fun _ => (f_X12_fitsAll h v0).bind fun h6 => (ck h6 12 v0).bind fun _ => (f_X12_weightAll h6 v0 (-1 : Int32) (0 : Int32) (-1 : Int32)).bind fun t7 => if (lg_cmp t7 (0 : Int64)) = 0 then (ck h6 12 v0).bind fun _ => bd2 (f_X12_is h6 v0 (6 : Int32)) fun t12 h13 => (rZ t12).bind fun t14 => some (t14, h13) else (ck h6 12 v0).bind fun _ => (f_X12_weightAll h6 v0 v1 v2 (-1 : Int32)).bind fun t8 => (ck h6 12 v0).bind fun _ => bd2 (f_X12_tellsBy h6 v0 t8 t7) fun t9 h10 => (rZ t9).bind fun t11 => some (t11, h10)
theorem s_X12_trust {h : aH} {v0 : Nat} {v1 : Int32} {v2 : Int32} {out : Int32 × aH} (hf0 : f_X12_trust h v0 v1 v2 = some out) : EV 4 yX12_trust cX12_trust 5 (some .boolean) h [.ref v0, .int v1, .int v2] (some (.int out.1)) out.2 0 0 := by
  refine EV.of (own := RX12) (lv0 := [(0, .ref v0), (1, .int v1), (2, .int v2)]) (by decide +kernel) rfl rfl (Nat.le_of_ble_eq_true rfl) ?_
  intro p l e s m args below meth c D cA B Hb C hin
  unfold f_X12_trust at hf0
  have J15 : ∀ (h1 : aH) (t2 : Nat), f_X12_trust_j15 h1 t2 = some out → gW p l e (rmO 4 0 0) s m args below meth c (MQ below (eQ D cA B Hb out.2 (some (.int out.1))) args s 0 0 (fun q => B ≤ q)) D cA B Hb 5 h1 15 [(0, .ref t2)] [] 0 0 := by
    intro h1 t2 hf0
    unfold f_X12_trust_j15 at hf0
    refine r_aload_n C dX12_trust_15 rfl ?_
    refine r_iconst (v := 1) C dX12_trust_16 (by decide) ?_
    obtain ⟨u4, e3, hf0⟩ := ob hf0
    obtain ⟨t5, h6, e7, hf0⟩ := ob2 hf0
    refine r_cV (ci := 12) (rest := []) (st2 := [.int t5]) C (s_X12_is e7) mk_X12_is rfl (ck_k e3) (by decide) im_X12_is sl_X12_is lk_X12_109 rfl rfl rfl dX12_trust_17 (Nat.le_of_ble_eq_true rfl) ⟨Nat.le_of_ble_eq_true rfl, Nat.le_of_ble_eq_true rfl⟩ ⟨Nat.le_of_ble_eq_true rfl, Nat.le_of_ble_eq_true rfl⟩ ?_
    obtain ⟨t8, e9, hf0⟩ := ob hf0
    obtain ⟨rfl, e9z⟩ := rZ_k e9
    obtain rfl := so hf0
    exact r_zret C dX12_trust_20 e9z
  refine r_aload_n C dX12_trust_0 rfl ?_
  refine r_iload_n C dX12_trust_1 rfl ?_
  obtain ⟨u11, e10, hf0⟩ := ob hf0
  obtain ⟨t12, e13, hf0⟩ := ob hf0
  refine r_cV (ci := 12) (rest := []) (st2 := [.int t12]) C (s_X12_isWitness e13) mk_X12_isWitness rfl (ck_k e10) (by decide) im_X12_isWitness sl_X12_isWitness lk_X12_340 rfl rfl rfl dX12_trust_2 (Nat.le_of_ble_eq_true rfl) ⟨Nat.le_of_ble_eq_true rfl, Nat.le_of_ble_eq_true rfl⟩ ⟨Nat.le_of_ble_eq_true rfl, Nat.le_of_ble_eq_true rfl⟩ ?_
  refine r_ifeq (tgt := 15) C dX12_trust_5 (by decide) (fun c14 => ?_) (fun c14 => ?_)
  · rw [if_pos c14] at hf0
    refine r_subk [0] (lv' := [(0, .ref v0)]) rfl ?_
    exact J15 h v0 hf0
  · rw [if_neg c14] at hf0
    refine r_iload_n C dX12_trust_8 rfl ?_
    obtain ⟨t15, e16, hf0⟩ := ob hf0
    refine r_cS (rest := []) (st2 := [.int t15]) C (s_X12_isKind e16) mk_X12_isKind sm_X12_isKind lk_X12_365 rfl rfl rfl dX12_trust_9 (Nat.le_of_ble_eq_true rfl) ⟨Nat.le_of_ble_eq_true rfl, Nat.le_of_ble_eq_true rfl⟩ ⟨Nat.le_of_ble_eq_true rfl, Nat.le_of_ble_eq_true rfl⟩ ?_
    refine r_ifne (tgt := 21) C dX12_trust_12 (by decide) (fun c17 => ?_) (fun c17 => ?_)
    · rw [if_neg c17] at hf0
      refine r_aload_n C dX12_trust_21 rfl ?_
      obtain ⟨u19, e18, hf0⟩ := ob hf0
      obtain ⟨h20, e21, hf0⟩ := ob hf0
      refine r_cV (ci := 12) (rest := []) (st2 := []) C (s_X12_fitsAll e21) mk_X12_fitsAll rfl (ck_k e18) (by decide) im_X12_fitsAll sl_X12_fitsAll lk_X12_388 rfl rfl rfl dX12_trust_22 (Nat.le_of_ble_eq_true rfl) ⟨Nat.le_of_ble_eq_true rfl, Nat.le_of_ble_eq_true rfl⟩ ⟨Nat.le_of_ble_eq_true rfl, Nat.le_of_ble_eq_true rfl⟩ ?_
      refine r_aload_n C dX12_trust_25 rfl ?_
      refine r_iconst (v := -1) C dX12_trust_26 (by decide) ?_
      refine r_iconst (v := 0) C dX12_trust_27 (by decide) ?_
      refine r_iconst (v := -1) C dX12_trust_28 (by decide) ?_
      obtain ⟨u23, e22, hf0⟩ := ob hf0
      obtain ⟨t24, e25, hf0⟩ := ob hf0
      refine r_cV (ci := 12) (rest := []) (st2 := [.long t24]) C (s_X12_weightAll e25) mk_X12_weightAll rfl (ck_k e22) (by decide) im_X12_weightAll sl_X12_weightAll lk_X12_405 rfl rfl rfl dX12_trust_29 (Nat.le_of_ble_eq_true rfl) ⟨Nat.le_of_ble_eq_true rfl, Nat.le_of_ble_eq_true rfl⟩ ⟨Nat.le_of_ble_eq_true rfl, Nat.le_of_ble_eq_true rfl⟩ ?_
      refine r_lstore_n (lv' := [(3, .long t24), (0, .ref v0), (1, .int v1), (2, .int v2)]) C dX12_trust_32 (by decide) rfl rfl ?_
      refine r_lload_n C dX12_trust_33 rfl ?_
      refine r_lconst (v := 0) C dX12_trust_34 (by decide) ?_
      refine r_lcmp C dX12_trust_35 ?_
      refine r_ifne (tgt := 48) C dX12_trust_36 (by decide) (fun c26 => ?_) (fun c26 => ?_)
      · rw [if_neg c26] at hf0
        refine r_aload_n C dX12_trust_48 rfl ?_
        refine r_aload_n C dX12_trust_49 rfl ?_
        refine r_iload_n C dX12_trust_50 rfl ?_
        refine r_iload_n C dX12_trust_51 rfl ?_
        refine r_iconst (v := -1) C dX12_trust_52 (by decide) ?_
        obtain ⟨u28, e27, hf0⟩ := ob hf0
        obtain ⟨t29, e30, hf0⟩ := ob hf0
        refine r_cV (ci := 12) (rest := [.ref v0]) (st2 := [.long t29, .ref v0]) C (s_X12_weightAll e30) mk_X12_weightAll rfl (ck_k e27) (by decide) im_X12_weightAll sl_X12_weightAll lk_X12_405 rfl rfl rfl dX12_trust_53 (Nat.le_of_ble_eq_true rfl) ⟨Nat.le_of_ble_eq_true rfl, Nat.le_of_ble_eq_true rfl⟩ ⟨Nat.le_of_ble_eq_true rfl, Nat.le_of_ble_eq_true rfl⟩ ?_
        refine r_lload_n C dX12_trust_56 rfl ?_
        obtain ⟨u32, e31, hf0⟩ := ob hf0
        obtain ⟨t33, h34, e35, hf0⟩ := ob2 hf0
        refine r_cV (ci := 12) (rest := []) (st2 := [.int t33]) C (s_X12_tellsBy e35) mk_X12_tellsBy rfl (ck_k e31) (by decide) im_X12_tellsBy sl_X12_tellsBy lk_X12_408 rfl rfl rfl dX12_trust_57 (Nat.le_of_ble_eq_true rfl) ⟨Nat.le_of_ble_eq_true rfl, Nat.le_of_ble_eq_true rfl⟩ ⟨Nat.le_of_ble_eq_true rfl, Nat.le_of_ble_eq_true rfl⟩ ?_
        obtain ⟨t36, e37, hf0⟩ := ob hf0
        obtain ⟨rfl, e37z⟩ := rZ_k e37
        obtain rfl := so hf0
        exact r_zret C dX12_trust_60 e37z
      · rw [if_pos c26] at hf0
        refine r_aload_n C dX12_trust_39 rfl ?_
        refine r_bipush (v := 6) C dX12_trust_40 (by decide) ?_
        obtain ⟨u39, e38, hf0⟩ := ob hf0
        obtain ⟨t40, h41, e42, hf0⟩ := ob2 hf0
        refine r_cV (ci := 12) (rest := []) (st2 := [.int t40]) C (s_X12_is e42) mk_X12_is rfl (ck_k e38) (by decide) im_X12_is sl_X12_is lk_X12_109 rfl rfl rfl dX12_trust_42 (Nat.le_of_ble_eq_true rfl) ⟨Nat.le_of_ble_eq_true rfl, Nat.le_of_ble_eq_true rfl⟩ ⟨Nat.le_of_ble_eq_true rfl, Nat.le_of_ble_eq_true rfl⟩ ?_
        refine r_goto (tgt := 60) C dX12_trust_45 (by decide) ?_
        obtain ⟨t43, e44, hf0⟩ := ob hf0
        obtain ⟨rfl, e44z⟩ := rZ_k e44
        obtain rfl := so hf0
        exact r_zret C dX12_trust_60 e44z
    · rw [if_pos c17] at hf0
      refine r_subk [0] (lv' := [(0, .ref v0)]) rfl ?_
      exact J15 h v0 hf0
def f_X12_bits_b4 (h : aH) (v1 : Int32) (v2 : Int32) : Option ((Int32 × Int32) ⊕ (Int32)) := if v2 = 0 then some (.inr v1) else (some (v1 + (1 : Int32))).bind fun t1 => (some (v2 &&& (v2 - (1 : Int32)))).bind fun t2 => some (.inl (t1, t2))
def f_X12_bits_l4 (h : aH) (v1 : Int32) (v2 : Int32) : Option (Int32) := whileL wN (fun q : Int32 × Int32 => f_X12_bits_b4 h q.1 q.2) (v1, v2)
def f_X12_bits (h : aH) (v0 : Int32) : Option (Int32) := (f_X12_bits_l4 h (0 : Int32) v0).bind fun t3 => some t3
theorem s_X12_bits {h : aH} {v0 : Int32} {out : Int32} (hf0 : f_X12_bits h v0 = some out) : EV 0 yX12_bits cX12_bits 3 (some .int) h [.int v0] (some (.int out)) h 0 0 := by
  refine EV.of (own := RX12) (lv0 := [(0, .int v0)]) (by decide +kernel) rfl rfl (Nat.le_of_ble_eq_true rfl) ?_
  intro p l e s m args below meth c D cA B Hb C hin
  unfold f_X12_bits at hf0
  refine r_iconst (v := 0) C dX12_bits_0 (by decide) ?_
  refine r_istore_n (lv' := [(1, .int (0 : Int32)), (0, .int v0)]) C dX12_bits_1 (by decide) rfl rfl ?_
  refine r_iload_n C dX12_bits_2 rfl ?_
  refine r_istore_n (lv' := [(2, .int v0), (1, .int (0 : Int32)), (0, .int v0)]) C dX12_bits_3 (by decide) rfl rfl ?_
  obtain ⟨y1, hl4, hf0⟩ := ob hf0
  have L4 : ∀ (n : Nat) (t2 : Int32) (t3 : Int32), whileL n (fun q : Int32 × Int32 => f_X12_bits_b4 h q.1 q.2) (t2, t3) = some y1 → gW p l e (rmO 0 0 0) s m args below meth c (MQ below (eQ D cA B Hb h (some (.int out))) args s 0 0 (fun q => B ≤ q)) D cA B Hb 3 h 4 [(1, .int t2), (2, .int t3)] [] 0 0 := by
    intro n
    induction n with
    | zero => intro t2 t3 hz; cases hz
    | succ n ih4 =>
      intro t2 t3 hz
      obtain ⟨x4, hf1, hk4⟩ := wl hz
      replace hf1 : f_X12_bits_b4 h  t2 t3 = some x4 := hf1
      unfold f_X12_bits_b4 at hf1
      refine r_iload_n C dX12_bits_4 rfl ?_
      refine r_ifeq (tgt := 20) C dX12_bits_5 (by decide) (fun c4 => ?_) (fun c4 => ?_)
      · rw [if_pos c4] at hf1
        obtain rfl := so hf1
        obtain rfl := so (show some t2 = some y1 from hk4)
        refine r_iload_n C dX12_bits_20 rfl ?_
        obtain rfl := so hf0
        exact r_iret C dX12_bits_21
      · rw [if_neg c4] at hf1
        obtain ⟨t5, e6, hf1⟩ := ob hf1
        refine r_iinc (lv' := [(1, .int t5), (2, .int t3)]) C dX12_bits_8 rfl e6 (by decide) rfl ?_
        refine r_iload_n C dX12_bits_11 rfl ?_
        refine r_iload_n C dX12_bits_12 rfl ?_
        refine r_iconst (v := 1) C dX12_bits_13 (by decide) ?_
        refine r_isub C dX12_bits_14 ?_
        refine r_iand C dX12_bits_15 ?_
        obtain ⟨t7, e8, hf1⟩ := ob hf1
        refine r_istore_n (lv' := [(2, .int t7), (1, .int t5)]) C dX12_bits_16 (by decide) e8 rfl ?_
        refine r_goto (tgt := 4) C dX12_bits_17 (by decide) ?_
        obtain rfl := so hf1
        refine r_subk [1, 0] (lv' := [(1, .int t5), (2, .int t7)]) rfl ?_
        exact ih4 t5 t7 hk4
  refine r_subk [1, 0] (lv' := [(1, .int (0 : Int32)), (2, .int v0)]) rfl ?_
  exact L4 wN (0 : Int32) v0 hl4
def f_X12_isSureBy_j163 (h : aH) (v0 : Nat) (v1 : Int32) (v2 : Int32) (v3 : Int32) (v4 : Int32) : Option ((Int32) ⊕ ((Unit) ⊕ (Unit))) := (some (v4 + (1 : Int32))).bind fun t1 => some (.inl t1)
def f_X12_isSureBy_j156 (h : aH) (v0 : Nat) (v1 : Int32) (v2 : Int32) (v3 : Int32) (v4 : Int32) (v5 : Int32) : Option ((Int32) ⊕ ((Unit) ⊕ (Unit))) := if v5 = 0 then f_X12_isSureBy_j163 h v0 v1 v2 v3 v4 else some (.inr (.inl ()))
def f_X12_isSureBy_j148 (h : aH) (v0 : Nat) (v1 : Int32) (v2 : Int32) (v3 : Int32) (v4 : Int32) (v6 : Int32) (s0 : Int32) : Option ((Int32 × Int32) ⊕ (Int32)) := (some (v6 + (1 : Int32))).bind fun t2 => some (.inl (s0, t2))
def f_X12_isSureBy_j132 (h : aH) (v0 : Nat) (v1 : Int32) (v2 : Int32) (v3 : Int32) (v4 : Int32) (v6 : Int32) (v7 : Int32) (v8 : Int32) : Option ((Int32 × Int32) ⊕ (Int32)) := (some (v8 + (1 : Int32))).bind fun t6 => some (.inl (v7, t6))
def f_X12_isSureBy_b79 (h : aH) (v0 : Nat) (v1 : Int32) (v2 : Int32) (v3 : Int32) (v4 : Int32) (v6 : Int32) (v7 : Int32) (v8 : Int32) : Option ((Int32 × Int32) ⊕ (Int32)) := (gR h 12 v0 0).bind fun t7 => (lI h t7 (6 : Int32)).bind fun t8 => if t8 ≤ v8 then some (.inr v7) else if ((v1 >>> (v8 &&& 31)) &&& (1 : Int32)) = (1 : Int32) then (ck h 12 v0).bind fun _ => (f_X12_ofHeard h v0 v8 (0 : Int32)).bind fun t9 => if t9 = v6 then (gR h 12 v0 36).bind fun t10 => (lI h t10 (((256 : Int32) * v8) + v4)).bind fun t11 => (some (v7 &&& t11)).bind fun t12 => f_X12_isSureBy_j132 h v0 v1 v2 v3 v4 v6 t12 v8 else f_X12_isSureBy_j132 h v0 v1 v2 v3 v4 v6 v7 v8 else f_X12_isSureBy_j132 h v0 v1 v2 v3 v4 v6 v7 v8
def f_X12_isSureBy_l79 (h : aH) (v0 : Nat) (v1 : Int32) (v2 : Int32) (v3 : Int32) (v4 : Int32) (v6 : Int32) (v7 : Int32) (v8 : Int32) : Option (Int32) := whileL wN (fun q : Int32 × Int32 => f_X12_isSureBy_b79 h v0 v1 v2 v3 v4 v6 q.1 q.2) (v7, v8)
def f_X12_isSureBy_b52 (h : aH) (v0 : Nat) (v1 : Int32) (v2 : Int32) (v3 : Int32) (v4 : Int32) (v5 : Int32) (v6 : Int32) : Option ((Int32 × Int32) ⊕ (Int32)) := (gR h 12 v0 0).bind fun t3 => (lI h t3 (4 : Int32)).bind fun t4 => if t4 ≤ v6 then some (.inr v5) else if v5 = 0 then some (.inr v5) else (ck h 12 v0).bind fun _ => (f_X12_mayBe h v0 v6).bind fun t5 => (f_X12_isSureBy_l79 h v0 v1 v2 v3 v4 v6 t5 (0 : Int32)).bind fun t13 => if t13 = 0 then f_X12_isSureBy_j148 h v0 v1 v2 v3 v4 v6 (0 : Int32) else f_X12_isSureBy_j148 h v0 v1 v2 v3 v4 v6 (1 : Int32)
def f_X12_isSureBy_l52 (h : aH) (v0 : Nat) (v1 : Int32) (v2 : Int32) (v3 : Int32) (v4 : Int32) (v5 : Int32) (v6 : Int32) : Option (Int32) := whileL wN (fun q : Int32 × Int32 => f_X12_isSureBy_b52 h v0 v1 v2 v3 v4 q.1 q.2) (v5, v6)
def f_X12_isSureBy_j40 (h : aH) (v0 : Nat) (v1 : Int32) (v2 : Int32) (v3 : Int32) (v4 : Int32) (s0 : Int32) (s1 : Int32) : Option ((Int32) ⊕ ((Unit) ⊕ (Unit))) := if s0 = s1 then f_X12_isSureBy_j163 h v0 v1 v2 v3 v4 else (f_X12_isSureBy_l52 h v0 v1 v2 v3 v4 (1 : Int32) (0 : Int32)).bind fun t14 => f_X12_isSureBy_j156 h v0 v1 v2 v3 v4 t14
def f_X12_isSureBy_b3 (h : aH) (v0 : Nat) (v1 : Int32) (v2 : Int32) (v3 : Int32) (v4 : Int32) : Option ((Int32) ⊕ ((Unit) ⊕ (Unit))) := (gR h 12 v0 0).bind fun t15 => (lI h t15 (2 : Int32)).bind fun t16 => if t16 ≤ v4 then some (.inr (.inr ())) else (ck h 12 v0).bind fun _ => (f_X12_isPossible h v0 v4).bind fun t17 => if t17 = 0 then f_X12_isSureBy_j163 h v0 v1 v2 v3 v4 else (ck h 12 v0).bind fun _ => (f_X12_isIn h v0 v2 v4).bind fun t18 => if v3 = (1 : Int32) then f_X12_isSureBy_j40 h v0 v1 v2 v3 v4 t18 (1 : Int32) else f_X12_isSureBy_j40 h v0 v1 v2 v3 v4 t18 (0 : Int32)
def f_X12_isSureBy_l3 (h : aH) (v0 : Nat) (v1 : Int32) (v2 : Int32) (v3 : Int32) (v4 : Int32) : Option ((Unit) ⊕ (Unit)) := whileL wN (fun q : Int32 => f_X12_isSureBy_b3 h v0 v1 v2 v3 q) v4
def f_X12_isSureBy (h : aH) (v0 : Nat) (v1 : Int32) (v2 : Int32) (v3 : Int32) : Option (Int32) := (f_X12_isSureBy_l3 h v0 v1 v2 v3 (0 : Int32)).bind fun e => match e with | .inl _ => some (0 : Int32) | .inr _ => some (1 : Int32)
theorem s_X12_isSureBy {h : aH} {v0 : Nat} {v1 : Int32} {v2 : Int32} {v3 : Int32} {out : Int32} (hf0 : f_X12_isSureBy h v0 v1 v2 v3 = some out) : EV 2 yX12_isSureBy cX12_isSureBy 9 (some .boolean) h [.ref v0, .int v1, .int v2, .int v3] (some (.int out)) h 0 0 := by
  refine EV.of (own := RX12) (lv0 := [(0, .ref v0), (1, .int v1), (2, .int v2), (3, .int v3)]) (by decide +kernel) rfl rfl (Nat.le_of_ble_eq_true rfl) ?_
  intro p l e s m args below meth c D cA B Hb C hin
  unfold f_X12_isSureBy at hf0
  refine r_iconst (v := 0) C dX12_isSureBy_0 (by decide) ?_
  refine r_istore (lv' := [(4, .int (0 : Int32)), (0, .ref v0), (1, .int v1), (2, .int v2), (3, .int v3)]) C dX12_isSureBy_1 (by decide) rfl rfl ?_
  obtain ⟨y1, hl3, hf0⟩ := ob hf0
  have L3 : ∀ (n : Nat) (t2 : Int32), whileL n (fun q : Int32 => f_X12_isSureBy_b3 h v0 v1 v2 v3 q) t2 = some y1 → gW p l e (rmO 2 0 0) s m args below meth c (MQ below (eQ D cA B Hb h (some (.int out))) args s 0 0 (fun q => B ≤ q)) D cA B Hb 9 h 3 [(0, .ref v0), (1, .int v1), (2, .int v2), (3, .int v3), (4, .int t2)] [] 0 0 := by
    intro n
    induction n with
    | zero => intro t2 hz; cases hz
    | succ n ih3 =>
      intro t2 hz
      obtain ⟨x3, hf1, hk3⟩ := wl hz
      replace hf1 : f_X12_isSureBy_b3 h v0 v1 v2 v3 t2 = some x3 := hf1
      unfold f_X12_isSureBy_b3 at hf1
      have J163 : ∀ (t3 : Int32), f_X12_isSureBy_j163 h v0 v1 v2 v3 t3 = some x3 → gW p l e (rmO 2 0 0) s m args below meth c (MQ below (eQ D cA B Hb h (some (.int out))) args s 0 0 (fun q => B ≤ q)) D cA B Hb 9 h 163 [(0, .ref v0), (1, .int v1), (2, .int v2), (3, .int v3), (4, .int t3)] [] 0 0 := by
        intro t3 hf1
        unfold f_X12_isSureBy_j163 at hf1
        obtain ⟨t4, e5, hf1⟩ := ob hf1
        refine r_iinc (lv' := [(4, .int t4), (0, .ref v0), (1, .int v1), (2, .int v2), (3, .int v3)]) C dX12_isSureBy_163 rfl e5 (by decide) rfl ?_
        refine r_goto (tgt := 3) C dX12_isSureBy_166 (by decide) ?_
        obtain rfl := so hf1
        refine r_subk [1, 2, 3, 4, 0] (lv' := [(0, .ref v0), (1, .int v1), (2, .int v2), (3, .int v3), (4, .int t4)]) rfl ?_
        exact ih3 t4 hk3
      have J156 : ∀ (t6 : Int32) (t7 : Int32), f_X12_isSureBy_j156 h v0 v1 v2 v3 t6 t7 = some x3 → gW p l e (rmO 2 0 0) s m args below meth c (MQ below (eQ D cA B Hb h (some (.int out))) args s 0 0 (fun q => B ≤ q)) D cA B Hb 9 h 156 [(0, .ref v0), (1, .int v1), (2, .int v2), (3, .int v3), (4, .int t6), (5, .int t7)] [] 0 0 := by
        intro t6 t7 hf1
        unfold f_X12_isSureBy_j156 at hf1
        refine r_iload C dX12_isSureBy_156 rfl ?_
        refine r_ifeq (tgt := 163) C dX12_isSureBy_158 (by decide) (fun c8 => ?_) (fun c8 => ?_)
        · rw [if_pos c8] at hf1
          refine r_subk [0, 1, 2, 3, 4] (lv' := [(0, .ref v0), (1, .int v1), (2, .int v2), (3, .int v3), (4, .int t6)]) rfl ?_
          exact J163 t6 hf1
        · rw [if_neg c8] at hf1
          obtain rfl := so hf1
          obtain rfl := so (show some (.inl () : (Unit) ⊕ (Unit)) = some y1 from hk3)
          dsimp only at hf0
          refine r_iconst (v := 0) C dX12_isSureBy_161 (by decide) ?_
          obtain rfl := so hf0
          exact r_zret C dX12_isSureBy_162 (Or.inl rfl)
      have J40 : ∀ (t9 : Int32) (t10 : Int32) (t11 : Int32), f_X12_isSureBy_j40 h v0 v1 v2 v3 t9 t10 t11 = some x3 → gW p l e (rmO 2 0 0) s m args below meth c (MQ below (eQ D cA B Hb h (some (.int out))) args s 0 0 (fun q => B ≤ q)) D cA B Hb 9 h 40 [(0, .ref v0), (1, .int v1), (2, .int v2), (3, .int v3), (4, .int t9)] [.int t11, .int t10] 0 0 := by
        intro t9 t10 t11 hf1
        unfold f_X12_isSureBy_j40 at hf1
        refine r_icmp_ne (tgt := 46) C dX12_isSureBy_40 (by decide) (fun c12 => ?_) (fun c12 => ?_)
        · rw [if_neg c12] at hf1
          refine r_iconst (v := 1) C dX12_isSureBy_46 (by decide) ?_
          refine r_istore (lv' := [(5, .int (1 : Int32)), (0, .ref v0), (1, .int v1), (2, .int v2), (3, .int v3), (4, .int t9)]) C dX12_isSureBy_47 (by decide) rfl rfl ?_
          refine r_iconst (v := 0) C dX12_isSureBy_49 (by decide) ?_
          refine r_istore (lv' := [(6, .int (0 : Int32)), (5, .int (1 : Int32)), (0, .ref v0), (1, .int v1), (2, .int v2), (3, .int v3), (4, .int t9)]) C dX12_isSureBy_50 (by decide) rfl rfl ?_
          obtain ⟨y13, hl52, hf1⟩ := ob hf1
          have L52 : ∀ (n : Nat) (t14 : Int32) (t15 : Int32), whileL n (fun q : Int32 × Int32 => f_X12_isSureBy_b52 h v0 v1 v2 v3 t9 q.1 q.2) (t14, t15) = some y13 → gW p l e (rmO 2 0 0) s m args below meth c (MQ below (eQ D cA B Hb h (some (.int out))) args s 0 0 (fun q => B ≤ q)) D cA B Hb 9 h 52 [(0, .ref v0), (1, .int v1), (2, .int v2), (3, .int v3), (4, .int t9), (5, .int t14), (6, .int t15)] [] 0 0 := by
            intro n
            induction n with
            | zero => intro t14 t15 hz; cases hz
            | succ n ih52 =>
              intro t14 t15 hz
              obtain ⟨x52, hf2, hk52⟩ := wl hz
              replace hf2 : f_X12_isSureBy_b52 h v0 v1 v2 v3 t9 t14 t15 = some x52 := hf2
              unfold f_X12_isSureBy_b52 at hf2
              have J148 : ∀ (t16 : Int32) (t17 : Int32), f_X12_isSureBy_j148 h v0 v1 v2 v3 t9 t16 t17 = some x52 → gW p l e (rmO 2 0 0) s m args below meth c (MQ below (eQ D cA B Hb h (some (.int out))) args s 0 0 (fun q => B ≤ q)) D cA B Hb 9 h 148 [(0, .ref v0), (1, .int v1), (2, .int v2), (3, .int v3), (4, .int t9), (6, .int t16)] [.int t17] 0 0 := by
                intro t16 t17 hf2
                unfold f_X12_isSureBy_j148 at hf2
                refine r_istore (lv' := [(5, .int t17), (0, .ref v0), (1, .int v1), (2, .int v2), (3, .int v3), (4, .int t9), (6, .int t16)]) C dX12_isSureBy_148 (by decide) rfl rfl ?_
                obtain ⟨t18, e19, hf2⟩ := ob hf2
                refine r_iinc (lv' := [(6, .int t18), (5, .int t17), (0, .ref v0), (1, .int v1), (2, .int v2), (3, .int v3), (4, .int t9)]) C dX12_isSureBy_150 rfl e19 (by decide) rfl ?_
                refine r_goto (tgt := 52) C dX12_isSureBy_153 (by decide) ?_
                obtain rfl := so hf2
                refine r_subk [2, 3, 4, 5, 6, 1, 0] (lv' := [(0, .ref v0), (1, .int v1), (2, .int v2), (3, .int v3), (4, .int t9), (5, .int t17), (6, .int t18)]) rfl ?_
                exact ih52 t17 t18 hk52
              refine r_iload C dX12_isSureBy_52 rfl ?_
              refine r_aload_n C dX12_isSureBy_54 rfl ?_
              obtain ⟨t20, e21, hf2⟩ := ob hf2
              refine r_getR C fk_X12_7 rfl dX12_isSureBy_55 e21 ?_
              refine r_iconst (v := 4) C dX12_isSureBy_58 (by decide) ?_
              obtain ⟨t22, e23, hf2⟩ := ob hf2
              refine r_ldI C dX12_isSureBy_59 e23 ?_
              refine r_icmp_ge (tgt := 156) C dX12_isSureBy_60 (by decide) (fun c24 => ?_) (fun c24 => ?_)
              · rw [if_pos c24] at hf2
                obtain rfl := so hf2
                obtain rfl := so (show some t14 = some y13 from hk52)
                refine r_subk [0, 1, 2, 3, 4, 5] (lv' := [(0, .ref v0), (1, .int v1), (2, .int v2), (3, .int v3), (4, .int t9), (5, .int t14)]) rfl ?_
                exact J156 t9 t14 hf1
              · rw [if_neg c24] at hf2
                refine r_iload C dX12_isSureBy_63 rfl ?_
                refine r_ifeq (tgt := 156) C dX12_isSureBy_65 (by decide) (fun c25 => ?_) (fun c25 => ?_)
                · rw [if_pos c25] at hf2
                  obtain rfl := so hf2
                  obtain rfl := so (show some t14 = some y13 from hk52)
                  refine r_subk [0, 1, 2, 3, 4, 5] (lv' := [(0, .ref v0), (1, .int v1), (2, .int v2), (3, .int v3), (4, .int t9), (5, .int t14)]) rfl ?_
                  exact J156 t9 t14 hf1
                · rw [if_neg c25] at hf2
                  refine r_aload_n C dX12_isSureBy_68 rfl ?_
                  refine r_iload C dX12_isSureBy_69 rfl ?_
                  obtain ⟨u27, e26, hf2⟩ := ob hf2
                  obtain ⟨t28, e29, hf2⟩ := ob hf2
                  refine r_cV (ci := 12) (rest := []) (st2 := [.int t28]) C (s_X12_mayBe e29) mk_X12_mayBe rfl (ck_k e26) (by decide) im_X12_mayBe sl_X12_mayBe lk_X12_372 rfl rfl rfl dX12_isSureBy_71 (Nat.le_of_ble_eq_true rfl) ⟨Nat.le_of_ble_eq_true rfl, Nat.le_of_ble_eq_true rfl⟩ ⟨Nat.le_of_ble_eq_true rfl, Nat.le_of_ble_eq_true rfl⟩ ?_
                  refine r_istore (lv' := [(7, .int t28), (0, .ref v0), (1, .int v1), (2, .int v2), (3, .int v3), (4, .int t9), (5, .int t14), (6, .int t15)]) C dX12_isSureBy_74 (by decide) rfl rfl ?_
                  refine r_iconst (v := 0) C dX12_isSureBy_76 (by decide) ?_
                  refine r_istore (lv' := [(8, .int (0 : Int32)), (7, .int t28), (0, .ref v0), (1, .int v1), (2, .int v2), (3, .int v3), (4, .int t9), (5, .int t14), (6, .int t15)]) C dX12_isSureBy_77 (by decide) rfl rfl ?_
                  obtain ⟨y30, hl79, hf2⟩ := ob hf2
                  have L79 : ∀ (n : Nat) (t31 : Int32) (t32 : Int32), whileL n (fun q : Int32 × Int32 => f_X12_isSureBy_b79 h v0 v1 v2 v3 t9 t15 q.1 q.2) (t31, t32) = some y30 → gW p l e (rmO 2 0 0) s m args below meth c (MQ below (eQ D cA B Hb h (some (.int out))) args s 0 0 (fun q => B ≤ q)) D cA B Hb 9 h 79 [(0, .ref v0), (1, .int v1), (2, .int v2), (3, .int v3), (4, .int t9), (6, .int t15), (7, .int t31), (8, .int t32)] [] 0 0 := by
                    intro n
                    induction n with
                    | zero => intro t31 t32 hz; cases hz
                    | succ n ih79 =>
                      intro t31 t32 hz
                      obtain ⟨x79, hf3, hk79⟩ := wl hz
                      replace hf3 : f_X12_isSureBy_b79 h v0 v1 v2 v3 t9 t15 t31 t32 = some x79 := hf3
                      unfold f_X12_isSureBy_b79 at hf3
                      have J132 : ∀ (t33 : Int32) (t34 : Int32), f_X12_isSureBy_j132 h v0 v1 v2 v3 t9 t15 t33 t34 = some x79 → gW p l e (rmO 2 0 0) s m args below meth c (MQ below (eQ D cA B Hb h (some (.int out))) args s 0 0 (fun q => B ≤ q)) D cA B Hb 9 h 132 [(0, .ref v0), (1, .int v1), (2, .int v2), (3, .int v3), (4, .int t9), (6, .int t15), (7, .int t33), (8, .int t34)] [] 0 0 := by
                        intro t33 t34 hf3
                        unfold f_X12_isSureBy_j132 at hf3
                        obtain ⟨t35, e36, hf3⟩ := ob hf3
                        refine r_iinc (lv' := [(8, .int t35), (0, .ref v0), (1, .int v1), (2, .int v2), (3, .int v3), (4, .int t9), (6, .int t15), (7, .int t33)]) C dX12_isSureBy_132 rfl e36 (by decide) rfl ?_
                        refine r_goto (tgt := 79) C dX12_isSureBy_135 (by decide) ?_
                        obtain rfl := so hf3
                        refine r_subk [1, 2, 3, 4, 5, 6, 7, 0] (lv' := [(0, .ref v0), (1, .int v1), (2, .int v2), (3, .int v3), (4, .int t9), (6, .int t15), (7, .int t33), (8, .int t35)]) rfl ?_
                        exact ih79 t33 t35 hk79
                      refine r_iload C dX12_isSureBy_79 rfl ?_
                      refine r_aload_n C dX12_isSureBy_81 rfl ?_
                      obtain ⟨t37, e38, hf3⟩ := ob hf3
                      refine r_getR C fk_X12_7 rfl dX12_isSureBy_82 e38 ?_
                      refine r_bipush (v := 6) C dX12_isSureBy_85 (by decide) ?_
                      obtain ⟨t39, e40, hf3⟩ := ob hf3
                      refine r_ldI C dX12_isSureBy_87 e40 ?_
                      refine r_icmp_ge (tgt := 138) C dX12_isSureBy_88 (by decide) (fun c41 => ?_) (fun c41 => ?_)
                      · rw [if_pos c41] at hf3
                        obtain rfl := so hf3
                        obtain rfl := so (show some t31 = some y30 from hk79)
                        refine r_iload C dX12_isSureBy_138 rfl ?_
                        refine r_ifeq (tgt := 147) C dX12_isSureBy_140 (by decide) (fun c42 => ?_) (fun c42 => ?_)
                        · rw [if_pos c42] at hf2
                          refine r_iconst (v := 0) C dX12_isSureBy_147 (by decide) ?_
                          refine r_subk [0, 1, 2, 3, 4, 5] (lv' := [(0, .ref v0), (1, .int v1), (2, .int v2), (3, .int v3), (4, .int t9), (6, .int t15)]) rfl ?_
                          exact J148 t15 (0 : Int32) hf2
                        · rw [if_neg c42] at hf2
                          refine r_iconst (v := 1) C dX12_isSureBy_143 (by decide) ?_
                          refine r_goto (tgt := 148) C dX12_isSureBy_144 (by decide) ?_
                          refine r_subk [0, 1, 2, 3, 4, 5] (lv' := [(0, .ref v0), (1, .int v1), (2, .int v2), (3, .int v3), (4, .int t9), (6, .int t15)]) rfl ?_
                          exact J148 t15 (1 : Int32) hf2
                      · rw [if_neg c41] at hf3
                        refine r_iload_n C dX12_isSureBy_91 rfl ?_
                        refine r_iload C dX12_isSureBy_92 rfl ?_
                        refine r_ishr C dX12_isSureBy_94 ?_
                        refine r_iconst (v := 1) C dX12_isSureBy_95 (by decide) ?_
                        refine r_iand C dX12_isSureBy_96 ?_
                        refine r_iconst (v := 1) C dX12_isSureBy_97 (by decide) ?_
                        refine r_icmp_ne (tgt := 132) C dX12_isSureBy_98 (by decide) (fun c43 => ?_) (fun c43 => ?_)
                        · rw [if_neg c43] at hf3
                          exact J132 t31 t32 hf3
                        · rw [if_pos c43] at hf3
                          refine r_aload_n C dX12_isSureBy_101 rfl ?_
                          refine r_iload C dX12_isSureBy_102 rfl ?_
                          refine r_iconst (v := 0) C dX12_isSureBy_104 (by decide) ?_
                          obtain ⟨u45, e44, hf3⟩ := ob hf3
                          obtain ⟨t46, e47, hf3⟩ := ob hf3
                          refine r_cV (ci := 12) (rest := []) (st2 := [.int t46]) C (s_X12_ofHeard e47) mk_X12_ofHeard rfl (ck_k e44) (by decide) im_X12_ofHeard sl_X12_ofHeard lk_X12_322 rfl rfl rfl dX12_isSureBy_105 (Nat.le_of_ble_eq_true rfl) ⟨Nat.le_of_ble_eq_true rfl, Nat.le_of_ble_eq_true rfl⟩ ⟨Nat.le_of_ble_eq_true rfl, Nat.le_of_ble_eq_true rfl⟩ ?_
                          refine r_iload C dX12_isSureBy_108 rfl ?_
                          refine r_icmp_ne (tgt := 132) C dX12_isSureBy_110 (by decide) (fun c48 => ?_) (fun c48 => ?_)
                          · rw [if_neg c48] at hf3
                            exact J132 t31 t32 hf3
                          · rw [if_pos c48] at hf3
                            refine r_iload C dX12_isSureBy_113 rfl ?_
                            refine r_aload_n C dX12_isSureBy_115 rfl ?_
                            obtain ⟨t49, e50, hf3⟩ := ob hf3
                            refine r_getR C fk_X12_76 rfl dX12_isSureBy_116 e50 ?_
                            refine r_sipush (v := 256) C dX12_isSureBy_119 (by decide) ?_
                            refine r_iload C dX12_isSureBy_122 rfl ?_
                            refine r_imul C dX12_isSureBy_124 ?_
                            refine r_iload C dX12_isSureBy_125 rfl ?_
                            refine r_iadd C dX12_isSureBy_127 ?_
                            obtain ⟨t51, e52, hf3⟩ := ob hf3
                            refine r_ldI C dX12_isSureBy_128 e52 ?_
                            refine r_iand C dX12_isSureBy_129 ?_
                            obtain ⟨t53, e54, hf3⟩ := ob hf3
                            refine r_istore (lv' := [(7, .int t53), (0, .ref v0), (1, .int v1), (2, .int v2), (3, .int v3), (4, .int t9), (6, .int t15), (8, .int t32)]) C dX12_isSureBy_130 (by decide) e54 rfl ?_
                            refine r_subk [1, 2, 3, 4, 5, 6, 0, 7] (lv' := [(0, .ref v0), (1, .int v1), (2, .int v2), (3, .int v3), (4, .int t9), (6, .int t15), (7, .int t53), (8, .int t32)]) rfl ?_
                            exact J132 t53 t32 hf3
                  refine r_subk [2, 3, 4, 5, 6, 8, 1, 0] (lv' := [(0, .ref v0), (1, .int v1), (2, .int v2), (3, .int v3), (4, .int t9), (6, .int t15), (7, .int t28), (8, .int (0 : Int32))]) rfl ?_
                  exact L79 wN t28 (0 : Int32) hl79
          refine r_subk [2, 3, 4, 5, 6, 1, 0] (lv' := [(0, .ref v0), (1, .int v1), (2, .int v2), (3, .int v3), (4, .int t9), (5, .int (1 : Int32)), (6, .int (0 : Int32))]) rfl ?_
          exact L52 wN (1 : Int32) (0 : Int32) hl52
        · rw [if_pos c12] at hf1
          refine r_goto (tgt := 163) C dX12_isSureBy_43 (by decide) ?_
          exact J163 t9 hf1
      refine r_iload C dX12_isSureBy_3 rfl ?_
      refine r_aload_n C dX12_isSureBy_5 rfl ?_
      obtain ⟨t55, e56, hf1⟩ := ob hf1
      refine r_getR C fk_X12_7 rfl dX12_isSureBy_6 e56 ?_
      refine r_iconst (v := 2) C dX12_isSureBy_9 (by decide) ?_
      obtain ⟨t57, e58, hf1⟩ := ob hf1
      refine r_ldI C dX12_isSureBy_10 e58 ?_
      refine r_icmp_ge (tgt := 169) C dX12_isSureBy_11 (by decide) (fun c59 => ?_) (fun c59 => ?_)
      · rw [if_pos c59] at hf1
        obtain rfl := so hf1
        obtain rfl := so (show some (.inr () : (Unit) ⊕ (Unit)) = some y1 from hk3)
        dsimp only at hf0
        refine r_iconst (v := 1) C dX12_isSureBy_169 (by decide) ?_
        obtain rfl := so hf0
        exact r_zret C dX12_isSureBy_170 (Or.inr rfl)
      · rw [if_neg c59] at hf1
        refine r_aload_n C dX12_isSureBy_14 rfl ?_
        refine r_iload C dX12_isSureBy_15 rfl ?_
        obtain ⟨u61, e60, hf1⟩ := ob hf1
        obtain ⟨t62, e63, hf1⟩ := ob hf1
        refine r_cV (ci := 12) (rest := []) (st2 := [.int t62]) C (s_X12_isPossible e63) mk_X12_isPossible rfl (ck_k e60) (by decide) im_X12_isPossible sl_X12_isPossible lk_X12_331 rfl rfl rfl dX12_isSureBy_17 (Nat.le_of_ble_eq_true rfl) ⟨Nat.le_of_ble_eq_true rfl, Nat.le_of_ble_eq_true rfl⟩ ⟨Nat.le_of_ble_eq_true rfl, Nat.le_of_ble_eq_true rfl⟩ ?_
        refine r_ifeq (tgt := 163) C dX12_isSureBy_20 (by decide) (fun c64 => ?_) (fun c64 => ?_)
        · rw [if_pos c64] at hf1
          exact J163 t2 hf1
        · rw [if_neg c64] at hf1
          refine r_aload_n C dX12_isSureBy_23 rfl ?_
          refine r_iload_n C dX12_isSureBy_24 rfl ?_
          refine r_iload C dX12_isSureBy_25 rfl ?_
          obtain ⟨u66, e65, hf1⟩ := ob hf1
          obtain ⟨t67, e68, hf1⟩ := ob hf1
          refine r_cV (ci := 12) (rest := []) (st2 := [.int t67]) C (s_X12_isIn e68) mk_X12_isIn rfl (ck_k e65) (by decide) im_X12_isIn sl_X12_isIn lk_X12_337 rfl rfl rfl dX12_isSureBy_27 (Nat.le_of_ble_eq_true rfl) ⟨Nat.le_of_ble_eq_true rfl, Nat.le_of_ble_eq_true rfl⟩ ⟨Nat.le_of_ble_eq_true rfl, Nat.le_of_ble_eq_true rfl⟩ ?_
          refine r_iload_n C dX12_isSureBy_30 rfl ?_
          refine r_iconst (v := 1) C dX12_isSureBy_31 (by decide) ?_
          refine r_icmp_ne (tgt := 39) C dX12_isSureBy_32 (by decide) (fun c69 => ?_) (fun c69 => ?_)
          · rw [if_neg c69] at hf1
            refine r_iconst (v := 0) C dX12_isSureBy_39 (by decide) ?_
            exact J40 t2 t67 (0 : Int32) hf1
          · rw [if_pos c69] at hf1
            refine r_iconst (v := 1) C dX12_isSureBy_35 (by decide) ?_
            refine r_goto (tgt := 40) C dX12_isSureBy_36 (by decide) ?_
            exact J40 t2 t67 (1 : Int32) hf1
  refine r_subk [1, 2, 3, 4, 0] (lv' := [(0, .ref v0), (1, .int v1), (2, .int v2), (3, .int v3), (4, .int (0 : Int32))]) rfl ?_
  exact L3 wN (0 : Int32) hl3
def f_X12_because_b53 (v0 : Nat) (v1 : Int32) (v2 : Int32) (v3 : Int32) (v4 : Int32) (h : aH) : Option ((Int32 × aH) ⊕ (aH)) := (gR h 12 v0 0).bind fun t6 => (lI h t6 (2 : Int32)).bind fun t7 => if t7 ≤ v4 then some (.inr h) else (gR h 12 v0 36).bind fun t8 => (ck h 12 v0).bind fun _ => (f_X12_ofHeard h v0 v3 (0 : Int32)).bind fun t9 => (ck h 12 v0).bind fun _ => (f_X12_ofHeard h v0 v3 (1 : Int32)).bind fun t10 => (ck h 12 v0).bind fun _ => (f_X12_ofHeard h v0 v3 (2 : Int32)).bind fun t11 => (ck h 12 v0).bind fun _ => (f_X12_kindsFor h v0 t9 t10 v4 t11).bind fun t12 => (sI h t8 (((256 : Int32) * v3) + v4) t12).bind fun h13 => (some (v4 + (1 : Int32))).bind fun t14 => some (.inl (t14, h13))
def f_X12_because_l53 (v0 : Nat) (v1 : Int32) (v2 : Int32) (v3 : Int32) (v4 : Int32) (h : aH) : Option (aH) := whileL wN (fun q : Int32 × aH => f_X12_because_b53 v0 v1 v2 v3 q.1 q.2) (v4, h)
def f_X12_because_b39 (v0 : Nat) (v1 : Int32) (v2 : Int32) (v3 : Int32) (h : aH) : Option ((Int32 × aH) ⊕ (aH)) := (gR h 12 v0 0).bind fun t4 => (lI h t4 (6 : Int32)).bind fun t5 => if t5 ≤ v3 then some (.inr h) else (f_X12_because_l53 v0 v1 v2 v3 (0 : Int32) h).bind fun h15 => (some (v3 + (1 : Int32))).bind fun t16 => some (.inl (t16, h15))
def f_X12_because_l39 (v0 : Nat) (v1 : Int32) (v2 : Int32) (v3 : Int32) (h : aH) : Option (aH) := whileL wN (fun q : Int32 × aH => f_X12_because_b39 v0 v1 v2 q.1 q.2) (v3, h)
def f_X12_because_j168 (h : aH) (v0 : Nat) (v1 : Int32) (v2 : Int32) (v3 : Int32) (v4 : Int32) : Option ((Int32 × Int32) ⊕ (Int32)) := (some (v4 + (1 : Int32))).bind fun t21 => some (.inl (v3, t21))
def f_X12_because_b128 (h : aH) (v0 : Nat) (v1 : Int32) (v2 : Int32) (v3 : Int32) (v4 : Int32) : Option ((Int32 × Int32) ⊕ (Int32)) := (gR h 12 v0 0).bind fun t22 => (lI h t22 (6 : Int32)).bind fun t23 => if ((1 : Int32) <<< (t23 &&& 31)) ≤ v4 then some (.inr v3) else (f_X12_bits h v4).bind fun t24 => (f_X12_bits h v3).bind fun t25 => if t25 ≤ t24 then f_X12_because_j168 h v0 v1 v2 v3 v4 else (ck h 12 v0).bind fun _ => (f_X12_isSureBy h v0 v4 v1 v2).bind fun t26 => if t26 = 0 then f_X12_because_j168 h v0 v1 v2 v3 v4 else f_X12_because_j168 h v0 v1 v2 v4 v4
def f_X12_because_l128 (h : aH) (v0 : Nat) (v1 : Int32) (v2 : Int32) (v3 : Int32) (v4 : Int32) : Option (Int32) := whileL wN (fun q : Int32 × Int32 => f_X12_because_b128 h v0 v1 v2 q.1 q.2) (v3, v4)
def f_X12_because_j213 (h : aH) (v0 : Nat) (v1 : Int32) (v2 : Int32) (v3 : Int32) (v4 : Int32) : Option ((Int32) ⊕ ((Int32) ⊕ (Unit))) := (some (v4 + (1 : Int32))).bind fun t28 => some (.inl t28)
def f_X12_because_b177 (h : aH) (v0 : Nat) (v1 : Int32) (v2 : Int32) (v3 : Int32) (v4 : Int32) : Option ((Int32) ⊕ ((Int32) ⊕ (Unit))) := if v3 ≤ v4 then some (.inr (.inr ())) else (f_X12_bits h v4).bind fun t29 => (f_X12_bits h v3).bind fun t30 => if t29 = t30 then (ck h 12 v0).bind fun _ => (f_X12_isSureBy h v0 v4 v1 v2).bind fun t31 => if t31 = 0 then f_X12_because_j213 h v0 v1 v2 v3 v4 else some (.inr (.inl v4)) else f_X12_because_j213 h v0 v1 v2 v3 v4
def f_X12_because_l177 (h : aH) (v0 : Nat) (v1 : Int32) (v2 : Int32) (v3 : Int32) (v4 : Int32) : Option ((Int32) ⊕ (Unit)) := whileL wN (fun q : Int32 => f_X12_because_b177 h v0 v1 v2 v3 q) v4
def f_X12_because (h : aH) (v0 : Nat) (v1 : Int32) : Option (Int32 × aH) := (ck h 12 v0).bind fun _ => (f_X12_isQuestion h v0 v1).bind fun t1 => if t1 = 0 then (ck h 12 v0).bind fun _ => bd2 (f_X12_refuse h v0 (1 : Int32)) fun t39 h40 => some (t39, h40) else (ck h 12 v0).bind fun _ => (f_X12_fitsAll h v0).bind fun h2 => (ck h2 12 v0).bind fun _ => (f_X12_sureAt h2 v0 (0 : Int32) v1).bind fun t3 => if t3 = (-1 : Int32) then (ck h2 12 v0).bind fun _ => bd2 (f_X12_refuse h2 v0 (6 : Int32)) fun t37 h38 => some (t37, h38) else (f_X12_because_l39 v0 v1 t3 (0 : Int32) h2).bind fun h17 => (gR h17 12 v0 0).bind fun t18 => (lI h17 t18 (6 : Int32)).bind fun t19 => (some (((1 : Int32) <<< (t19 &&& 31)) - (1 : Int32))).bind fun t20 => (f_X12_because_l128 h17 v0 v1 t3 t20 (0 : Int32)).bind fun t27 => (f_X12_because_l177 h17 v0 v1 t3 t27 (0 : Int32)).bind fun e => match e with | .inl t32 => (ck h17 12 v0).bind fun _ => bd2 (f_X12_gives h17 v0 t32) fun t33 h34 => some (t33, h34) | .inr _ => (ck h17 12 v0).bind fun _ => bd2 (f_X12_gives h17 v0 t27) fun t35 h36 => some (t35, h36)
theorem s_X12_because {h : aH} {v0 : Nat} {v1 : Int32} {out : Int32 × aH} (hf0 : f_X12_because h v0 v1 = some out) : EV 4 yX12_because cX12_because 5 (some .int) h [.ref v0, .int v1] (some (.int out.1)) out.2 0 0 := by
  refine EV.of (own := RX12) (lv0 := [(0, .ref v0), (1, .int v1)]) (by decide +kernel) rfl rfl (Nat.le_of_ble_eq_true rfl) ?_
  intro p l e s m args below meth c D cA B Hb C hin
  unfold f_X12_because at hf0
  refine r_aload_n C dX12_because_0 rfl ?_
  refine r_iload_n C dX12_because_1 rfl ?_
  obtain ⟨u2, e1, hf0⟩ := ob hf0
  obtain ⟨t3, e4, hf0⟩ := ob hf0
  refine r_cV (ci := 12) (rest := []) (st2 := [.int t3]) C (s_X12_isQuestion e4) mk_X12_isQuestion rfl (ck_k e1) (by decide) im_X12_isQuestion sl_X12_isQuestion lk_X12_334 rfl rfl rfl dX12_because_2 (Nat.le_of_ble_eq_true rfl) ⟨Nat.le_of_ble_eq_true rfl, Nat.le_of_ble_eq_true rfl⟩ ⟨Nat.le_of_ble_eq_true rfl, Nat.le_of_ble_eq_true rfl⟩ ?_
  refine r_ifne (tgt := 14) C dX12_because_5 (by decide) (fun c5 => ?_) (fun c5 => ?_)
  · rw [if_neg c5] at hf0
    refine r_aload_n C dX12_because_14 rfl ?_
    obtain ⟨u7, e6, hf0⟩ := ob hf0
    obtain ⟨h8, e9, hf0⟩ := ob hf0
    refine r_cV (ci := 12) (rest := []) (st2 := []) C (s_X12_fitsAll e9) mk_X12_fitsAll rfl (ck_k e6) (by decide) im_X12_fitsAll sl_X12_fitsAll lk_X12_388 rfl rfl rfl dX12_because_15 (Nat.le_of_ble_eq_true rfl) ⟨Nat.le_of_ble_eq_true rfl, Nat.le_of_ble_eq_true rfl⟩ ⟨Nat.le_of_ble_eq_true rfl, Nat.le_of_ble_eq_true rfl⟩ ?_
    refine r_aload_n C dX12_because_18 rfl ?_
    refine r_iconst (v := 0) C dX12_because_19 (by decide) ?_
    refine r_iload_n C dX12_because_20 rfl ?_
    obtain ⟨u11, e10, hf0⟩ := ob hf0
    obtain ⟨t12, e13, hf0⟩ := ob hf0
    refine r_cV (ci := 12) (rest := []) (st2 := [.int t12]) C (s_X12_sureAt e13) mk_X12_sureAt rfl (ck_k e10) (by decide) im_X12_sureAt sl_X12_sureAt lk_X12_394 rfl rfl rfl dX12_because_21 (Nat.le_of_ble_eq_true rfl) ⟨Nat.le_of_ble_eq_true rfl, Nat.le_of_ble_eq_true rfl⟩ ⟨Nat.le_of_ble_eq_true rfl, Nat.le_of_ble_eq_true rfl⟩ ?_
    refine r_istore_n (lv' := [(2, .int t12), (0, .ref v0), (1, .int v1)]) C dX12_because_24 (by decide) rfl rfl ?_
    refine r_iload_n C dX12_because_25 rfl ?_
    refine r_iconst (v := -1) C dX12_because_26 (by decide) ?_
    refine r_icmp_ne (tgt := 37) C dX12_because_27 (by decide) (fun c14 => ?_) (fun c14 => ?_)
    · rw [if_neg c14] at hf0
      refine r_iconst (v := 0) C dX12_because_37 (by decide) ?_
      refine r_istore_n (lv' := [(3, .int (0 : Int32)), (2, .int t12), (0, .ref v0), (1, .int v1)]) C dX12_because_38 (by decide) rfl rfl ?_
      obtain ⟨y15, hl39, hf0⟩ := ob hf0
      have L39 : ∀ (n : Nat) (t16 : Int32) (h17 : aH), whileL n (fun q : Int32 × aH => f_X12_because_b39 v0 v1 t12 q.1 q.2) (t16, h17) = some y15 → gW p l e (rmO 4 0 0) s m args below meth c (MQ below (eQ D cA B Hb out.2 (some (.int out.1))) args s 0 0 (fun q => B ≤ q)) D cA B Hb 5 h17 39 [(0, .ref v0), (1, .int v1), (2, .int t12), (3, .int t16)] [] 0 0 := by
        intro n
        induction n with
        | zero => intro t16 h17 hz; cases hz
        | succ n ih39 =>
          intro t16 h17 hz
          obtain ⟨x39, hf1, hk39⟩ := wl hz
          replace hf1 : f_X12_because_b39 v0 v1 t12 t16 h17 = some x39 := hf1
          unfold f_X12_because_b39 at hf1
          refine r_iload_n C dX12_because_39 rfl ?_
          refine r_aload_n C dX12_because_40 rfl ?_
          obtain ⟨t18, e19, hf1⟩ := ob hf1
          refine r_getR C fk_X12_7 rfl dX12_because_41 e19 ?_
          refine r_bipush (v := 6) C dX12_because_44 (by decide) ?_
          obtain ⟨t20, e21, hf1⟩ := ob hf1
          refine r_ldI C dX12_because_46 e21 ?_
          refine r_icmp_ge (tgt := 113) C dX12_because_47 (by decide) (fun c22 => ?_) (fun c22 => ?_)
          · rw [if_pos c22] at hf1
            obtain rfl := so hf1
            obtain rfl := so (show some h17 = some y15 from hk39)
            refine r_iconst (v := 1) C dX12_because_113 (by decide) ?_
            refine r_aload_n C dX12_because_114 rfl ?_
            obtain ⟨t23, e24, hf0⟩ := ob hf0
            refine r_getR C fk_X12_7 rfl dX12_because_115 e24 ?_
            refine r_bipush (v := 6) C dX12_because_118 (by decide) ?_
            obtain ⟨t25, e26, hf0⟩ := ob hf0
            refine r_ldI C dX12_because_120 e26 ?_
            refine r_ishl C dX12_because_121 ?_
            refine r_iconst (v := 1) C dX12_because_122 (by decide) ?_
            refine r_isub C dX12_because_123 ?_
            obtain ⟨t27, e28, hf0⟩ := ob hf0
            refine r_istore_n (lv' := [(3, .int t27), (0, .ref v0), (1, .int v1), (2, .int t12)]) C dX12_because_124 (by decide) e28 rfl ?_
            refine r_iconst (v := 0) C dX12_because_125 (by decide) ?_
            refine r_istore (lv' := [(4, .int (0 : Int32)), (3, .int t27), (0, .ref v0), (1, .int v1), (2, .int t12)]) C dX12_because_126 (by decide) rfl rfl ?_
            obtain ⟨y29, hl128, hf0⟩ := ob hf0
            have L128 : ∀ (n : Nat) (t30 : Int32) (t31 : Int32), whileL n (fun q : Int32 × Int32 => f_X12_because_b128 h17 v0 v1 t12 q.1 q.2) (t30, t31) = some y29 → gW p l e (rmO 4 0 0) s m args below meth c (MQ below (eQ D cA B Hb out.2 (some (.int out.1))) args s 0 0 (fun q => B ≤ q)) D cA B Hb 5 h17 128 [(0, .ref v0), (1, .int v1), (2, .int t12), (3, .int t30), (4, .int t31)] [] 0 0 := by
              intro n
              induction n with
              | zero => intro t30 t31 hz; cases hz
              | succ n ih128 =>
                intro t30 t31 hz
                obtain ⟨x128, hf1, hk128⟩ := wl hz
                replace hf1 : f_X12_because_b128 h17 v0 v1 t12 t30 t31 = some x128 := hf1
                unfold f_X12_because_b128 at hf1
                have J168 : ∀ (t32 : Int32) (t33 : Int32), f_X12_because_j168 h17 v0 v1 t12 t32 t33 = some x128 → gW p l e (rmO 4 0 0) s m args below meth c (MQ below (eQ D cA B Hb out.2 (some (.int out.1))) args s 0 0 (fun q => B ≤ q)) D cA B Hb 5 h17 168 [(0, .ref v0), (1, .int v1), (2, .int t12), (3, .int t32), (4, .int t33)] [] 0 0 := by
                  intro t32 t33 hf1
                  unfold f_X12_because_j168 at hf1
                  obtain ⟨t34, e35, hf1⟩ := ob hf1
                  refine r_iinc (lv' := [(4, .int t34), (0, .ref v0), (1, .int v1), (2, .int t12), (3, .int t32)]) C dX12_because_168 rfl e35 (by decide) rfl ?_
                  refine r_goto (tgt := 128) C dX12_because_171 (by decide) ?_
                  obtain rfl := so hf1
                  refine r_subk [1, 2, 3, 4, 0] (lv' := [(0, .ref v0), (1, .int v1), (2, .int t12), (3, .int t32), (4, .int t34)]) rfl ?_
                  exact ih128 t32 t34 hk128
                refine r_iload C dX12_because_128 rfl ?_
                refine r_iconst (v := 1) C dX12_because_130 (by decide) ?_
                refine r_aload_n C dX12_because_131 rfl ?_
                obtain ⟨t36, e37, hf1⟩ := ob hf1
                refine r_getR C fk_X12_7 rfl dX12_because_132 e37 ?_
                refine r_bipush (v := 6) C dX12_because_135 (by decide) ?_
                obtain ⟨t38, e39, hf1⟩ := ob hf1
                refine r_ldI C dX12_because_137 e39 ?_
                refine r_ishl C dX12_because_138 ?_
                refine r_icmp_ge (tgt := 174) C dX12_because_139 (by decide) (fun c40 => ?_) (fun c40 => ?_)
                · rw [if_pos c40] at hf1
                  obtain rfl := so hf1
                  obtain rfl := so (show some t30 = some y29 from hk128)
                  refine r_iconst (v := 0) C dX12_because_174 (by decide) ?_
                  refine r_istore (lv' := [(4, .int (0 : Int32)), (0, .ref v0), (1, .int v1), (2, .int t12), (3, .int t30)]) C dX12_because_175 (by decide) rfl rfl ?_
                  obtain ⟨y41, hl177, hf0⟩ := ob hf0
                  have L177 : ∀ (n : Nat) (t42 : Int32), whileL n (fun q : Int32 => f_X12_because_b177 h17 v0 v1 t12 t30 q) t42 = some y41 → gW p l e (rmO 4 0 0) s m args below meth c (MQ below (eQ D cA B Hb out.2 (some (.int out.1))) args s 0 0 (fun q => B ≤ q)) D cA B Hb 5 h17 177 [(0, .ref v0), (1, .int v1), (2, .int t12), (3, .int t30), (4, .int t42)] [] 0 0 := by
                    intro n
                    induction n with
                    | zero => intro t42 hz; cases hz
                    | succ n ih177 =>
                      intro t42 hz
                      obtain ⟨x177, hf1, hk177⟩ := wl hz
                      replace hf1 : f_X12_because_b177 h17 v0 v1 t12 t30 t42 = some x177 := hf1
                      unfold f_X12_because_b177 at hf1
                      have J213 : ∀ (t43 : Int32), f_X12_because_j213 h17 v0 v1 t12 t30 t43 = some x177 → gW p l e (rmO 4 0 0) s m args below meth c (MQ below (eQ D cA B Hb out.2 (some (.int out.1))) args s 0 0 (fun q => B ≤ q)) D cA B Hb 5 h17 213 [(0, .ref v0), (1, .int v1), (2, .int t12), (3, .int t30), (4, .int t43)] [] 0 0 := by
                        intro t43 hf1
                        unfold f_X12_because_j213 at hf1
                        obtain ⟨t44, e45, hf1⟩ := ob hf1
                        refine r_iinc (lv' := [(4, .int t44), (0, .ref v0), (1, .int v1), (2, .int t12), (3, .int t30)]) C dX12_because_213 rfl e45 (by decide) rfl ?_
                        refine r_goto (tgt := 177) C dX12_because_216 (by decide) ?_
                        obtain rfl := so hf1
                        refine r_subk [1, 2, 3, 4, 0] (lv' := [(0, .ref v0), (1, .int v1), (2, .int t12), (3, .int t30), (4, .int t44)]) rfl ?_
                        exact ih177 t44 hk177
                      refine r_iload C dX12_because_177 rfl ?_
                      refine r_iload_n C dX12_because_179 rfl ?_
                      refine r_icmp_ge (tgt := 219) C dX12_because_180 (by decide) (fun c46 => ?_) (fun c46 => ?_)
                      · rw [if_pos c46] at hf1
                        obtain rfl := so hf1
                        obtain rfl := so (show some (.inr () : (Int32) ⊕ (Unit)) = some y41 from hk177)
                        dsimp only at hf0
                        refine r_aload_n C dX12_because_219 rfl ?_
                        refine r_iload_n C dX12_because_220 rfl ?_
                        obtain ⟨u48, e47, hf0⟩ := ob hf0
                        obtain ⟨t49, h50, e51, hf0⟩ := ob2 hf0
                        refine r_cV (ci := 12) (rest := []) (st2 := [.int t49]) C (s_X12_gives e51) mk_X12_gives rfl (ck_k e47) (by decide) im_X12_gives sl_X12_gives lk_X12_200 rfl rfl rfl dX12_because_221 (Nat.le_of_ble_eq_true rfl) ⟨Nat.le_of_ble_eq_true rfl, Nat.le_of_ble_eq_true rfl⟩ ⟨Nat.le_of_ble_eq_true rfl, Nat.le_of_ble_eq_true rfl⟩ ?_
                        obtain rfl := so hf0
                        exact r_iret C dX12_because_224
                      · rw [if_neg c46] at hf1
                        refine r_iload C dX12_because_183 rfl ?_
                        obtain ⟨t52, e53, hf1⟩ := ob hf1
                        refine r_cS (rest := []) (st2 := [.int t52]) C (s_X12_bits e53) mk_X12_bits sm_X12_bits lk_X12_412 rfl rfl rfl dX12_because_185 (Nat.le_of_ble_eq_true rfl) ⟨Nat.le_of_ble_eq_true rfl, Nat.le_of_ble_eq_true rfl⟩ ⟨Nat.le_of_ble_eq_true rfl, Nat.le_of_ble_eq_true rfl⟩ ?_
                        refine r_iload_n C dX12_because_188 rfl ?_
                        obtain ⟨t54, e55, hf1⟩ := ob hf1
                        refine r_cS (rest := [.int t52]) (st2 := [.int t54, .int t52]) C (s_X12_bits e55) mk_X12_bits sm_X12_bits lk_X12_412 rfl rfl rfl dX12_because_189 (Nat.le_of_ble_eq_true rfl) ⟨Nat.le_of_ble_eq_true rfl, Nat.le_of_ble_eq_true rfl⟩ ⟨Nat.le_of_ble_eq_true rfl, Nat.le_of_ble_eq_true rfl⟩ ?_
                        refine r_icmp_ne (tgt := 213) C dX12_because_192 (by decide) (fun c56 => ?_) (fun c56 => ?_)
                        · rw [if_neg c56] at hf1
                          exact J213 t42 hf1
                        · rw [if_pos c56] at hf1
                          refine r_aload_n C dX12_because_195 rfl ?_
                          refine r_iload C dX12_because_196 rfl ?_
                          refine r_iload_n C dX12_because_198 rfl ?_
                          refine r_iload_n C dX12_because_199 rfl ?_
                          obtain ⟨u58, e57, hf1⟩ := ob hf1
                          obtain ⟨t59, e60, hf1⟩ := ob hf1
                          refine r_cV (ci := 12) (rest := []) (st2 := [.int t59]) C (s_X12_isSureBy e60) mk_X12_isSureBy rfl (ck_k e57) (by decide) im_X12_isSureBy sl_X12_isSureBy lk_X12_415 rfl rfl rfl dX12_because_200 (Nat.le_of_ble_eq_true rfl) ⟨Nat.le_of_ble_eq_true rfl, Nat.le_of_ble_eq_true rfl⟩ ⟨Nat.le_of_ble_eq_true rfl, Nat.le_of_ble_eq_true rfl⟩ ?_
                          refine r_ifeq (tgt := 213) C dX12_because_203 (by decide) (fun c61 => ?_) (fun c61 => ?_)
                          · rw [if_pos c61] at hf1
                            exact J213 t42 hf1
                          · rw [if_neg c61] at hf1
                            obtain rfl := so hf1
                            obtain rfl := so (show some (.inl t42 : (Int32) ⊕ (Unit)) = some y41 from hk177)
                            dsimp only at hf0
                            refine r_aload_n C dX12_because_206 rfl ?_
                            refine r_iload C dX12_because_207 rfl ?_
                            obtain ⟨u63, e62, hf0⟩ := ob hf0
                            obtain ⟨t64, h65, e66, hf0⟩ := ob2 hf0
                            refine r_cV (ci := 12) (rest := []) (st2 := [.int t64]) C (s_X12_gives e66) mk_X12_gives rfl (ck_k e62) (by decide) im_X12_gives sl_X12_gives lk_X12_200 rfl rfl rfl dX12_because_209 (Nat.le_of_ble_eq_true rfl) ⟨Nat.le_of_ble_eq_true rfl, Nat.le_of_ble_eq_true rfl⟩ ⟨Nat.le_of_ble_eq_true rfl, Nat.le_of_ble_eq_true rfl⟩ ?_
                            obtain rfl := so hf0
                            exact r_iret C dX12_because_212
                  refine r_subk [1, 2, 3, 4, 0] (lv' := [(0, .ref v0), (1, .int v1), (2, .int t12), (3, .int t30), (4, .int (0 : Int32))]) rfl ?_
                  exact L177 wN (0 : Int32) hl177
                · rw [if_neg c40] at hf1
                  refine r_iload C dX12_because_142 rfl ?_
                  obtain ⟨t67, e68, hf1⟩ := ob hf1
                  refine r_cS (rest := []) (st2 := [.int t67]) C (s_X12_bits e68) mk_X12_bits sm_X12_bits lk_X12_412 rfl rfl rfl dX12_because_144 (Nat.le_of_ble_eq_true rfl) ⟨Nat.le_of_ble_eq_true rfl, Nat.le_of_ble_eq_true rfl⟩ ⟨Nat.le_of_ble_eq_true rfl, Nat.le_of_ble_eq_true rfl⟩ ?_
                  refine r_iload_n C dX12_because_147 rfl ?_
                  obtain ⟨t69, e70, hf1⟩ := ob hf1
                  refine r_cS (rest := [.int t67]) (st2 := [.int t69, .int t67]) C (s_X12_bits e70) mk_X12_bits sm_X12_bits lk_X12_412 rfl rfl rfl dX12_because_148 (Nat.le_of_ble_eq_true rfl) ⟨Nat.le_of_ble_eq_true rfl, Nat.le_of_ble_eq_true rfl⟩ ⟨Nat.le_of_ble_eq_true rfl, Nat.le_of_ble_eq_true rfl⟩ ?_
                  refine r_icmp_ge (tgt := 168) C dX12_because_151 (by decide) (fun c71 => ?_) (fun c71 => ?_)
                  · rw [if_pos c71] at hf1
                    exact J168 t30 t31 hf1
                  · rw [if_neg c71] at hf1
                    refine r_aload_n C dX12_because_154 rfl ?_
                    refine r_iload C dX12_because_155 rfl ?_
                    refine r_iload_n C dX12_because_157 rfl ?_
                    refine r_iload_n C dX12_because_158 rfl ?_
                    obtain ⟨u73, e72, hf1⟩ := ob hf1
                    obtain ⟨t74, e75, hf1⟩ := ob hf1
                    refine r_cV (ci := 12) (rest := []) (st2 := [.int t74]) C (s_X12_isSureBy e75) mk_X12_isSureBy rfl (ck_k e72) (by decide) im_X12_isSureBy sl_X12_isSureBy lk_X12_415 rfl rfl rfl dX12_because_159 (Nat.le_of_ble_eq_true rfl) ⟨Nat.le_of_ble_eq_true rfl, Nat.le_of_ble_eq_true rfl⟩ ⟨Nat.le_of_ble_eq_true rfl, Nat.le_of_ble_eq_true rfl⟩ ?_
                    refine r_ifeq (tgt := 168) C dX12_because_162 (by decide) (fun c76 => ?_) (fun c76 => ?_)
                    · rw [if_pos c76] at hf1
                      exact J168 t30 t31 hf1
                    · rw [if_neg c76] at hf1
                      refine r_iload C dX12_because_165 rfl ?_
                      refine r_istore_n (lv' := [(3, .int t31), (0, .ref v0), (1, .int v1), (2, .int t12), (4, .int t31)]) C dX12_because_167 (by decide) rfl rfl ?_
                      refine r_subk [1, 2, 3, 0, 4] (lv' := [(0, .ref v0), (1, .int v1), (2, .int t12), (3, .int t31), (4, .int t31)]) rfl ?_
                      exact J168 t31 t31 hf1
            refine r_subk [2, 3, 4, 1, 0] (lv' := [(0, .ref v0), (1, .int v1), (2, .int t12), (3, .int t27), (4, .int (0 : Int32))]) rfl ?_
            exact L128 wN t27 (0 : Int32) hl128
          · rw [if_neg c22] at hf1
            refine r_iconst (v := 0) C dX12_because_50 (by decide) ?_
            refine r_istore (lv' := [(4, .int (0 : Int32)), (0, .ref v0), (1, .int v1), (2, .int t12), (3, .int t16)]) C dX12_because_51 (by decide) rfl rfl ?_
            obtain ⟨y77, hl53, hf1⟩ := ob hf1
            have L53 : ∀ (n : Nat) (t78 : Int32) (h79 : aH), whileL n (fun q : Int32 × aH => f_X12_because_b53 v0 v1 t12 t16 q.1 q.2) (t78, h79) = some y77 → gW p l e (rmO 4 0 0) s m args below meth c (MQ below (eQ D cA B Hb out.2 (some (.int out.1))) args s 0 0 (fun q => B ≤ q)) D cA B Hb 5 h79 53 [(0, .ref v0), (1, .int v1), (2, .int t12), (3, .int t16), (4, .int t78)] [] 0 0 := by
              intro n
              induction n with
              | zero => intro t78 h79 hz; cases hz
              | succ n ih53 =>
                intro t78 h79 hz
                obtain ⟨x53, hf2, hk53⟩ := wl hz
                replace hf2 : f_X12_because_b53 v0 v1 t12 t16 t78 h79 = some x53 := hf2
                unfold f_X12_because_b53 at hf2
                refine r_iload C dX12_because_53 rfl ?_
                refine r_aload_n C dX12_because_55 rfl ?_
                obtain ⟨t80, e81, hf2⟩ := ob hf2
                refine r_getR C fk_X12_7 rfl dX12_because_56 e81 ?_
                refine r_iconst (v := 2) C dX12_because_59 (by decide) ?_
                obtain ⟨t82, e83, hf2⟩ := ob hf2
                refine r_ldI C dX12_because_60 e83 ?_
                refine r_icmp_ge (tgt := 107) C dX12_because_61 (by decide) (fun c84 => ?_) (fun c84 => ?_)
                · rw [if_pos c84] at hf2
                  obtain rfl := so hf2
                  obtain rfl := so (show some h79 = some y77 from hk53)
                  obtain ⟨t85, e86, hf1⟩ := ob hf1
                  refine r_iinc (lv' := [(3, .int t85), (0, .ref v0), (1, .int v1), (2, .int t12), (4, .int t78)]) C dX12_because_107 rfl e86 (by decide) rfl ?_
                  refine r_goto (tgt := 39) C dX12_because_110 (by decide) ?_
                  obtain rfl := so hf1
                  refine r_subk [1, 2, 3, 0] (lv' := [(0, .ref v0), (1, .int v1), (2, .int t12), (3, .int t85)]) rfl ?_
                  exact ih39 t85 h79 hk39
                · rw [if_neg c84] at hf2
                  refine r_aload_n C dX12_because_64 rfl ?_
                  obtain ⟨t87, e88, hf2⟩ := ob hf2
                  refine r_getR C fk_X12_76 rfl dX12_because_65 e88 ?_
                  refine r_sipush (v := 256) C dX12_because_68 (by decide) ?_
                  refine r_iload_n C dX12_because_71 rfl ?_
                  refine r_imul C dX12_because_72 ?_
                  refine r_iload C dX12_because_73 rfl ?_
                  refine r_iadd C dX12_because_75 ?_
                  refine r_aload_n C dX12_because_76 rfl ?_
                  refine r_aload_n C dX12_because_77 rfl ?_
                  refine r_iload_n C dX12_because_78 rfl ?_
                  refine r_iconst (v := 0) C dX12_because_79 (by decide) ?_
                  obtain ⟨u90, e89, hf2⟩ := ob hf2
                  obtain ⟨t91, e92, hf2⟩ := ob hf2
                  refine r_cV (ci := 12) (rest := [.ref v0, .int (((256 : Int32) * t16) + t78), .ref t87]) (st2 := [.int t91, .ref v0, .int (((256 : Int32) * t16) + t78), .ref t87]) C (s_X12_ofHeard e92) mk_X12_ofHeard rfl (ck_k e89) (by decide) im_X12_ofHeard sl_X12_ofHeard lk_X12_322 rfl rfl rfl dX12_because_80 (Nat.le_of_ble_eq_true rfl) ⟨Nat.le_of_ble_eq_true rfl, Nat.le_of_ble_eq_true rfl⟩ ⟨Nat.le_of_ble_eq_true rfl, Nat.le_of_ble_eq_true rfl⟩ ?_
                  refine r_aload_n C dX12_because_83 rfl ?_
                  refine r_iload_n C dX12_because_84 rfl ?_
                  refine r_iconst (v := 1) C dX12_because_85 (by decide) ?_
                  obtain ⟨u94, e93, hf2⟩ := ob hf2
                  obtain ⟨t95, e96, hf2⟩ := ob hf2
                  refine r_cV (ci := 12) (rest := [.int t91, .ref v0, .int (((256 : Int32) * t16) + t78), .ref t87]) (st2 := [.int t95, .int t91, .ref v0, .int (((256 : Int32) * t16) + t78), .ref t87]) C (s_X12_ofHeard e96) mk_X12_ofHeard rfl (ck_k e93) (by decide) im_X12_ofHeard sl_X12_ofHeard lk_X12_322 rfl rfl rfl dX12_because_86 (Nat.le_of_ble_eq_true rfl) ⟨Nat.le_of_ble_eq_true rfl, Nat.le_of_ble_eq_true rfl⟩ ⟨Nat.le_of_ble_eq_true rfl, Nat.le_of_ble_eq_true rfl⟩ ?_
                  refine r_iload C dX12_because_89 rfl ?_
                  refine r_aload_n C dX12_because_91 rfl ?_
                  refine r_iload_n C dX12_because_92 rfl ?_
                  refine r_iconst (v := 2) C dX12_because_93 (by decide) ?_
                  obtain ⟨u98, e97, hf2⟩ := ob hf2
                  obtain ⟨t99, e100, hf2⟩ := ob hf2
                  refine r_cV (ci := 12) (rest := [.int t78, .int t95, .int t91, .ref v0, .int (((256 : Int32) * t16) + t78), .ref t87]) (st2 := [.int t99, .int t78, .int t95, .int t91, .ref v0, .int (((256 : Int32) * t16) + t78), .ref t87]) C (s_X12_ofHeard e100) mk_X12_ofHeard rfl (ck_k e97) (by decide) im_X12_ofHeard sl_X12_ofHeard lk_X12_322 rfl rfl rfl dX12_because_94 (Nat.le_of_ble_eq_true rfl) ⟨Nat.le_of_ble_eq_true rfl, Nat.le_of_ble_eq_true rfl⟩ ⟨Nat.le_of_ble_eq_true rfl, Nat.le_of_ble_eq_true rfl⟩ ?_
                  obtain ⟨u102, e101, hf2⟩ := ob hf2
                  obtain ⟨t103, e104, hf2⟩ := ob hf2
                  refine r_cV (ci := 12) (rest := [.int (((256 : Int32) * t16) + t78), .ref t87]) (st2 := [.int t103, .int (((256 : Int32) * t16) + t78), .ref t87]) C (s_X12_kindsFor e104) mk_X12_kindsFor rfl (ck_k e101) (by decide) im_X12_kindsFor sl_X12_kindsFor lk_X12_375 rfl rfl rfl dX12_because_97 (Nat.le_of_ble_eq_true rfl) ⟨Nat.le_of_ble_eq_true rfl, Nat.le_of_ble_eq_true rfl⟩ ⟨Nat.le_of_ble_eq_true rfl, Nat.le_of_ble_eq_true rfl⟩ ?_
                  obtain ⟨h105, e106, hf2⟩ := ob hf2
                  refine r_stI C dX12_because_100 e106 ?_
                  obtain ⟨t107, e108, hf2⟩ := ob hf2
                  refine r_iinc (lv' := [(4, .int t107), (0, .ref v0), (1, .int v1), (2, .int t12), (3, .int t16)]) C dX12_because_101 rfl e108 (by decide) rfl ?_
                  refine r_goto (tgt := 53) C dX12_because_104 (by decide) ?_
                  obtain rfl := so hf2
                  refine r_subk [1, 2, 3, 4, 0] (lv' := [(0, .ref v0), (1, .int v1), (2, .int t12), (3, .int t16), (4, .int t107)]) rfl ?_
                  exact ih53 t107 h105 hk53
            refine r_subk [1, 2, 3, 4, 0] (lv' := [(0, .ref v0), (1, .int v1), (2, .int t12), (3, .int t16), (4, .int (0 : Int32))]) rfl ?_
            exact L53 wN (0 : Int32) h17 hl53
      refine r_subk [2, 3, 1, 0] (lv' := [(0, .ref v0), (1, .int v1), (2, .int t12), (3, .int (0 : Int32))]) rfl ?_
      exact L39 wN (0 : Int32) h8 hl39
    · rw [if_pos c14] at hf0
      refine r_aload_n C dX12_because_30 rfl ?_
      refine r_bipush (v := 6) C dX12_because_31 (by decide) ?_
      obtain ⟨u110, e109, hf0⟩ := ob hf0
      obtain ⟨t111, h112, e113, hf0⟩ := ob2 hf0
      refine r_cV (ci := 12) (rest := []) (st2 := [.int t111]) C (s_X12_refuse e113) mk_X12_refuse rfl (ck_k e109) (by decide) im_X12_refuse sl_X12_refuse lk_X12_197 rfl rfl rfl dX12_because_33 (Nat.le_of_ble_eq_true rfl) ⟨Nat.le_of_ble_eq_true rfl, Nat.le_of_ble_eq_true rfl⟩ ⟨Nat.le_of_ble_eq_true rfl, Nat.le_of_ble_eq_true rfl⟩ ?_
      obtain rfl := so hf0
      exact r_iret C dX12_because_36
  · rw [if_pos c5] at hf0
    refine r_aload_n C dX12_because_8 rfl ?_
    refine r_iconst (v := 1) C dX12_because_9 (by decide) ?_
    obtain ⟨u115, e114, hf0⟩ := ob hf0
    obtain ⟨t116, h117, e118, hf0⟩ := ob2 hf0
    refine r_cV (ci := 12) (rest := []) (st2 := [.int t116]) C (s_X12_refuse e118) mk_X12_refuse rfl (ck_k e114) (by decide) im_X12_refuse sl_X12_refuse lk_X12_197 rfl rfl rfl dX12_because_10 (Nat.le_of_ble_eq_true rfl) ⟨Nat.le_of_ble_eq_true rfl, Nat.le_of_ble_eq_true rfl⟩ ⟨Nat.le_of_ble_eq_true rfl, Nat.le_of_ble_eq_true rfl⟩ ?_
    obtain rfl := so hf0
    exact r_iret C dX12_because_13
def f_X12_gave_j15 (h : aH) (v0 : Nat) : Option (Int32 × aH) := (ck h 12 v0).bind fun _ => bd2 (f_X12_refuse h v0 (6 : Int32)) fun t1 h2 => some (t1, h2)
def f_X12_gave (h : aH) (v0 : Nat) (v1 : Int32) : Option (Int32 × aH) := if v1 < 0 then f_X12_gave_j15 h v0 else (gR h 12 v0 0).bind fun t3 => (lI h t3 (6 : Int32)).bind fun t4 => if v1 < t4 then (ck h 12 v0).bind fun _ => (f_X12_fitsBy h v0 ((1 : Int32) <<< (v1 &&& 31))).bind fun h5 => (ck h5 12 v0).bind fun _ => (f_X12_size h5 v0 (0 : Int32)).bind fun t6 => (ck h5 12 v0).bind fun _ => (f_X12_leftAt h5 v0 (0 : Int32)).bind fun t7 => (ck h5 12 v0).bind fun _ => bd2 (f_X12_gives h5 v0 (t6 - t7)) fun t8 h9 => some (t8, h9) else f_X12_gave_j15 h v0
theorem s_X12_gave {h : aH} {v0 : Nat} {v1 : Int32} {out : Int32 × aH} (hf0 : f_X12_gave h v0 v1 = some out) : EV 4 yX12_gave cX12_gave 2 (some .int) h [.ref v0, .int v1] (some (.int out.1)) out.2 0 0 := by
  refine EV.of (own := RX12) (lv0 := [(0, .ref v0), (1, .int v1)]) (by decide +kernel) rfl rfl (Nat.le_of_ble_eq_true rfl) ?_
  intro p l e s m args below meth c D cA B Hb C hin
  unfold f_X12_gave at hf0
  have J15 : ∀ (h1 : aH) (t2 : Nat), f_X12_gave_j15 h1 t2 = some out → gW p l e (rmO 4 0 0) s m args below meth c (MQ below (eQ D cA B Hb out.2 (some (.int out.1))) args s 0 0 (fun q => B ≤ q)) D cA B Hb 2 h1 15 [(0, .ref t2)] [] 0 0 := by
    intro h1 t2 hf0
    unfold f_X12_gave_j15 at hf0
    refine r_aload_n C dX12_gave_15 rfl ?_
    refine r_bipush (v := 6) C dX12_gave_16 (by decide) ?_
    obtain ⟨u4, e3, hf0⟩ := ob hf0
    obtain ⟨t5, h6, e7, hf0⟩ := ob2 hf0
    refine r_cV (ci := 12) (rest := []) (st2 := [.int t5]) C (s_X12_refuse e7) mk_X12_refuse rfl (ck_k e3) (by decide) im_X12_refuse sl_X12_refuse lk_X12_197 rfl rfl rfl dX12_gave_18 (Nat.le_of_ble_eq_true rfl) ⟨Nat.le_of_ble_eq_true rfl, Nat.le_of_ble_eq_true rfl⟩ ⟨Nat.le_of_ble_eq_true rfl, Nat.le_of_ble_eq_true rfl⟩ ?_
    obtain rfl := so hf0
    exact r_iret C dX12_gave_21
  refine r_iload_n C dX12_gave_0 rfl ?_
  refine r_iflt (tgt := 15) C dX12_gave_1 (by decide) (fun c8 => ?_) (fun c8 => ?_)
  · rw [if_pos c8] at hf0
    refine r_subk [0] (lv' := [(0, .ref v0)]) rfl ?_
    exact J15 h v0 hf0
  · rw [if_neg c8] at hf0
    refine r_iload_n C dX12_gave_4 rfl ?_
    refine r_aload_n C dX12_gave_5 rfl ?_
    obtain ⟨t9, e10, hf0⟩ := ob hf0
    refine r_getR C fk_X12_7 rfl dX12_gave_6 e10 ?_
    refine r_bipush (v := 6) C dX12_gave_9 (by decide) ?_
    obtain ⟨t11, e12, hf0⟩ := ob hf0
    refine r_ldI C dX12_gave_11 e12 ?_
    refine r_icmp_lt (tgt := 22) C dX12_gave_12 (by decide) (fun c13 => ?_) (fun c13 => ?_)
    · rw [if_pos c13] at hf0
      refine r_aload_n C dX12_gave_22 rfl ?_
      refine r_iconst (v := 1) C dX12_gave_23 (by decide) ?_
      refine r_iload_n C dX12_gave_24 rfl ?_
      refine r_ishl C dX12_gave_25 ?_
      obtain ⟨u15, e14, hf0⟩ := ob hf0
      obtain ⟨h16, e17, hf0⟩ := ob hf0
      refine r_cV (ci := 12) (rest := []) (st2 := []) C (s_X12_fitsBy e17) mk_X12_fitsBy rfl (ck_k e14) (by decide) im_X12_fitsBy sl_X12_fitsBy lk_X12_378 rfl rfl rfl dX12_gave_26 (Nat.le_of_ble_eq_true rfl) ⟨Nat.le_of_ble_eq_true rfl, Nat.le_of_ble_eq_true rfl⟩ ⟨Nat.le_of_ble_eq_true rfl, Nat.le_of_ble_eq_true rfl⟩ ?_
      refine r_aload_n C dX12_gave_29 rfl ?_
      refine r_aload_n C dX12_gave_30 rfl ?_
      refine r_iconst (v := 0) C dX12_gave_31 (by decide) ?_
      obtain ⟨u19, e18, hf0⟩ := ob hf0
      obtain ⟨t20, e21, hf0⟩ := ob hf0
      refine r_cV (ci := 12) (rest := [.ref v0]) (st2 := [.int t20, .ref v0]) C (s_X12_size e21) mk_X12_size rfl (ck_k e18) (by decide) im_X12_size sl_X12_size lk_X12_298 rfl rfl rfl dX12_gave_32 (Nat.le_of_ble_eq_true rfl) ⟨Nat.le_of_ble_eq_true rfl, Nat.le_of_ble_eq_true rfl⟩ ⟨Nat.le_of_ble_eq_true rfl, Nat.le_of_ble_eq_true rfl⟩ ?_
      refine r_aload_n C dX12_gave_35 rfl ?_
      refine r_iconst (v := 0) C dX12_gave_36 (by decide) ?_
      obtain ⟨u23, e22, hf0⟩ := ob hf0
      obtain ⟨t24, e25, hf0⟩ := ob hf0
      refine r_cV (ci := 12) (rest := [.int t20, .ref v0]) (st2 := [.int t24, .int t20, .ref v0]) C (s_X12_leftAt e25) mk_X12_leftAt rfl (ck_k e22) (by decide) im_X12_leftAt sl_X12_leftAt lk_X12_391 rfl rfl rfl dX12_gave_37 (Nat.le_of_ble_eq_true rfl) ⟨Nat.le_of_ble_eq_true rfl, Nat.le_of_ble_eq_true rfl⟩ ⟨Nat.le_of_ble_eq_true rfl, Nat.le_of_ble_eq_true rfl⟩ ?_
      refine r_isub C dX12_gave_40 ?_
      obtain ⟨u27, e26, hf0⟩ := ob hf0
      obtain ⟨t28, h29, e30, hf0⟩ := ob2 hf0
      refine r_cV (ci := 12) (rest := []) (st2 := [.int t28]) C (s_X12_gives e30) mk_X12_gives rfl (ck_k e26) (by decide) im_X12_gives sl_X12_gives lk_X12_200 rfl rfl rfl dX12_gave_41 (Nat.le_of_ble_eq_true rfl) ⟨Nat.le_of_ble_eq_true rfl, Nat.le_of_ble_eq_true rfl⟩ ⟨Nat.le_of_ble_eq_true rfl, Nat.le_of_ble_eq_true rfl⟩ ?_
      obtain rfl := so hf0
      exact r_iret C dX12_gave_44
    · rw [if_neg c13] at hf0
      refine r_subk [0] (lv' := [(0, .ref v0)]) rfl ?_
      exact J15 h v0 hf0
def f_X12_feesOf_b4 (h : aH) (v0 : Nat) (v1 : Int32) (v2 : Int32) : Option ((Int32 × Int32) ⊕ (Int32)) := (gR h 12 v0 0).bind fun t1 => (lI h t1 (6 : Int32)).bind fun t2 => if t2 ≤ v2 then some (.inr v1) else (ck h 12 v0).bind fun _ => (f_X12_ofHeard h v0 v2 (1 : Int32)).bind fun t3 => (ck h 12 v0).bind fun _ => (f_X12_ofHeard h v0 v2 (2 : Int32)).bind fun t4 => (gR h 12 v0 0).bind fun t5 => (lI h t5 ((64 : Int32) + t3)).bind fun t6 => (gR h 12 v0 0).bind fun t7 => (nz (2 : Int32)).bind fun _ => (lI h t7 ((64 : Int32) + (t4 / (2 : Int32)))).bind fun t8 => (nz (2 : Int32)).bind fun _ => (some (v1 + (t6 + (t8 * ((1 : Int32) + (t4 - t4 / (2 : Int32) * (2 : Int32))))))).bind fun t9 => (some (v2 + (1 : Int32))).bind fun t10 => some (.inl (t9, t10))
def f_X12_feesOf_l4 (h : aH) (v0 : Nat) (v1 : Int32) (v2 : Int32) : Option (Int32) := whileL wN (fun q : Int32 × Int32 => f_X12_feesOf_b4 h v0 q.1 q.2) (v1, v2)
def f_X12_feesOf (h : aH) (v0 : Nat) : Option (Int32) := (f_X12_feesOf_l4 h v0 (0 : Int32) (0 : Int32)).bind fun t11 => some t11
theorem s_X12_feesOf {h : aH} {v0 : Nat} {out : Int32} (hf0 : f_X12_feesOf h v0 = some out) : EV 1 yX12_feesOf cX12_feesOf 5 (some .int) h [.ref v0] (some (.int out)) h 0 0 := by
  refine EV.of (own := RX12) (lv0 := [(0, .ref v0)]) (by decide +kernel) rfl rfl (Nat.le_of_ble_eq_true rfl) ?_
  intro p l e s m args below meth c D cA B Hb C hin
  unfold f_X12_feesOf at hf0
  refine r_iconst (v := 0) C dX12_feesOf_0 (by decide) ?_
  refine r_istore_n (lv' := [(1, .int (0 : Int32)), (0, .ref v0)]) C dX12_feesOf_1 (by decide) rfl rfl ?_
  refine r_iconst (v := 0) C dX12_feesOf_2 (by decide) ?_
  refine r_istore_n (lv' := [(2, .int (0 : Int32)), (1, .int (0 : Int32)), (0, .ref v0)]) C dX12_feesOf_3 (by decide) rfl rfl ?_
  obtain ⟨y1, hl4, hf0⟩ := ob hf0
  have L4 : ∀ (n : Nat) (t2 : Int32) (t3 : Int32), whileL n (fun q : Int32 × Int32 => f_X12_feesOf_b4 h v0 q.1 q.2) (t2, t3) = some y1 → gW p l e (rmO 1 0 0) s m args below meth c (MQ below (eQ D cA B Hb h (some (.int out))) args s 0 0 (fun q => B ≤ q)) D cA B Hb 5 h 4 [(0, .ref v0), (1, .int t2), (2, .int t3)] [] 0 0 := by
    intro n
    induction n with
    | zero => intro t2 t3 hz; cases hz
    | succ n ih4 =>
      intro t2 t3 hz
      obtain ⟨x4, hf1, hk4⟩ := wl hz
      replace hf1 : f_X12_feesOf_b4 h v0 t2 t3 = some x4 := hf1
      unfold f_X12_feesOf_b4 at hf1
      refine r_iload_n C dX12_feesOf_4 rfl ?_
      refine r_aload_n C dX12_feesOf_5 rfl ?_
      obtain ⟨t4, e5, hf1⟩ := ob hf1
      refine r_getR C fk_X12_7 rfl dX12_feesOf_6 e5 ?_
      refine r_bipush (v := 6) C dX12_feesOf_9 (by decide) ?_
      obtain ⟨t6, e7, hf1⟩ := ob hf1
      refine r_ldI C dX12_feesOf_11 e7 ?_
      refine r_icmp_ge (tgt := 68) C dX12_feesOf_12 (by decide) (fun c8 => ?_) (fun c8 => ?_)
      · rw [if_pos c8] at hf1
        obtain rfl := so hf1
        obtain rfl := so (show some t2 = some y1 from hk4)
        refine r_iload_n C dX12_feesOf_68 rfl ?_
        obtain rfl := so hf0
        exact r_iret C dX12_feesOf_69
      · rw [if_neg c8] at hf1
        refine r_aload_n C dX12_feesOf_15 rfl ?_
        refine r_iload_n C dX12_feesOf_16 rfl ?_
        refine r_iconst (v := 1) C dX12_feesOf_17 (by decide) ?_
        obtain ⟨u10, e9, hf1⟩ := ob hf1
        obtain ⟨t11, e12, hf1⟩ := ob hf1
        refine r_cV (ci := 12) (rest := []) (st2 := [.int t11]) C (s_X12_ofHeard e12) mk_X12_ofHeard rfl (ck_k e9) (by decide) im_X12_ofHeard sl_X12_ofHeard lk_X12_322 rfl rfl rfl dX12_feesOf_18 (Nat.le_of_ble_eq_true rfl) ⟨Nat.le_of_ble_eq_true rfl, Nat.le_of_ble_eq_true rfl⟩ ⟨Nat.le_of_ble_eq_true rfl, Nat.le_of_ble_eq_true rfl⟩ ?_
        refine r_istore_n (lv' := [(3, .int t11), (0, .ref v0), (1, .int t2), (2, .int t3)]) C dX12_feesOf_21 (by decide) rfl rfl ?_
        refine r_aload_n C dX12_feesOf_22 rfl ?_
        refine r_iload_n C dX12_feesOf_23 rfl ?_
        refine r_iconst (v := 2) C dX12_feesOf_24 (by decide) ?_
        obtain ⟨u14, e13, hf1⟩ := ob hf1
        obtain ⟨t15, e16, hf1⟩ := ob hf1
        refine r_cV (ci := 12) (rest := []) (st2 := [.int t15]) C (s_X12_ofHeard e16) mk_X12_ofHeard rfl (ck_k e13) (by decide) im_X12_ofHeard sl_X12_ofHeard lk_X12_322 rfl rfl rfl dX12_feesOf_25 (Nat.le_of_ble_eq_true rfl) ⟨Nat.le_of_ble_eq_true rfl, Nat.le_of_ble_eq_true rfl⟩ ⟨Nat.le_of_ble_eq_true rfl, Nat.le_of_ble_eq_true rfl⟩ ?_
        refine r_istore (lv' := [(4, .int t15), (3, .int t11), (0, .ref v0), (1, .int t2), (2, .int t3)]) C dX12_feesOf_28 (by decide) rfl rfl ?_
        refine r_iload_n C dX12_feesOf_30 rfl ?_
        refine r_aload_n C dX12_feesOf_31 rfl ?_
        obtain ⟨t17, e18, hf1⟩ := ob hf1
        refine r_getR C fk_X12_7 rfl dX12_feesOf_32 e18 ?_
        refine r_bipush (v := 64) C dX12_feesOf_35 (by decide) ?_
        refine r_iload_n C dX12_feesOf_37 rfl ?_
        refine r_iadd C dX12_feesOf_38 ?_
        obtain ⟨t19, e20, hf1⟩ := ob hf1
        refine r_ldI C dX12_feesOf_39 e20 ?_
        refine r_aload_n C dX12_feesOf_40 rfl ?_
        obtain ⟨t21, e22, hf1⟩ := ob hf1
        refine r_getR C fk_X12_7 rfl dX12_feesOf_41 e22 ?_
        refine r_bipush (v := 64) C dX12_feesOf_44 (by decide) ?_
        refine r_iload C dX12_feesOf_46 rfl ?_
        refine r_iconst (v := 2) C dX12_feesOf_48 (by decide) ?_
        obtain ⟨u24, e23, hf1⟩ := ob hf1
        refine r_idiv C dX12_feesOf_49 (nz_k e23) ?_
        refine r_iadd C dX12_feesOf_50 ?_
        obtain ⟨t25, e26, hf1⟩ := ob hf1
        refine r_ldI C dX12_feesOf_51 e26 ?_
        refine r_iconst (v := 1) C dX12_feesOf_52 (by decide) ?_
        refine r_iload C dX12_feesOf_53 rfl ?_
        refine r_iconst (v := 2) C dX12_feesOf_55 (by decide) ?_
        obtain ⟨u28, e27, hf1⟩ := ob hf1
        refine r_irem C dX12_feesOf_56 (nz_k e27) ?_
        refine r_iadd C dX12_feesOf_57 ?_
        refine r_imul C dX12_feesOf_58 ?_
        refine r_iadd C dX12_feesOf_59 ?_
        refine r_iadd C dX12_feesOf_60 ?_
        obtain ⟨t29, e30, hf1⟩ := ob hf1
        refine r_istore_n (lv' := [(1, .int t29), (4, .int t15), (3, .int t11), (0, .ref v0), (2, .int t3)]) C dX12_feesOf_61 (by decide) e30 rfl ?_
        obtain ⟨t31, e32, hf1⟩ := ob hf1
        refine r_iinc (lv' := [(2, .int t31), (1, .int t29), (4, .int t15), (3, .int t11), (0, .ref v0)]) C dX12_feesOf_62 rfl e32 (by decide) rfl ?_
        refine r_goto (tgt := 4) C dX12_feesOf_65 (by decide) ?_
        obtain rfl := so hf1
        refine r_subk [4, 1, 0] (lv' := [(0, .ref v0), (1, .int t29), (2, .int t31)]) rfl ?_
        exact ih4 t29 t31 hk4
  refine r_subk [2, 1, 0] (lv' := [(0, .ref v0), (1, .int (0 : Int32)), (2, .int (0 : Int32))]) rfl ?_
  exact L4 wN (0 : Int32) (0 : Int32) hl4
def f_X12_fees (h : aH) (v0 : Nat) : Option (Int32 × aH) := (ck h 12 v0).bind fun _ => (f_X12_feesOf h v0).bind fun t1 => (ck h 12 v0).bind fun _ => bd2 (f_X12_gives h v0 t1) fun t2 h3 => some (t2, h3)
theorem s_X12_fees {h : aH} {v0 : Nat} {out : Int32 × aH} (hf0 : f_X12_fees h v0 = some out) : EV 2 yX12_fees cX12_fees 1 (some .int) h [.ref v0] (some (.int out.1)) out.2 0 0 := by
  refine EV.of (own := RX12) (lv0 := [(0, .ref v0)]) (by decide +kernel) rfl rfl (Nat.le_of_ble_eq_true rfl) ?_
  intro p l e s m args below meth c D cA B Hb C hin
  unfold f_X12_fees at hf0
  refine r_aload_n C dX12_fees_0 rfl ?_
  refine r_aload_n C dX12_fees_1 rfl ?_
  obtain ⟨u2, e1, hf0⟩ := ob hf0
  obtain ⟨t3, e4, hf0⟩ := ob hf0
  refine r_cV (ci := 12) (rest := [.ref v0]) (st2 := [.int t3, .ref v0]) C (s_X12_feesOf e4) mk_X12_feesOf rfl (ck_k e1) (by decide) im_X12_feesOf sl_X12_feesOf lk_X12_418 rfl rfl rfl dX12_fees_2 (Nat.le_of_ble_eq_true rfl) ⟨Nat.le_of_ble_eq_true rfl, Nat.le_of_ble_eq_true rfl⟩ ⟨Nat.le_of_ble_eq_true rfl, Nat.le_of_ble_eq_true rfl⟩ ?_
  obtain ⟨u6, e5, hf0⟩ := ob hf0
  obtain ⟨t7, h8, e9, hf0⟩ := ob2 hf0
  refine r_cV (ci := 12) (rest := []) (st2 := [.int t7]) C (s_X12_gives e9) mk_X12_gives rfl (ck_k e5) (by decide) im_X12_gives sl_X12_gives lk_X12_200 rfl rfl rfl dX12_fees_5 (Nat.le_of_ble_eq_true rfl) ⟨Nat.le_of_ble_eq_true rfl, Nat.le_of_ble_eq_true rfl⟩ ⟨Nat.le_of_ble_eq_true rfl, Nat.le_of_ble_eq_true rfl⟩ ?_
  obtain rfl := so hf0
  exact r_iret C dX12_fees_8
def f_X12_answered_j104 (h : aH) (v0 : Nat) (v1 : Int32) (v2 : Int32) (v3 : Int32) (v4 : Int32) (v5 : Int32) (v6 : Int32) (v7 : Int32) (s0 : Nat) (s1 : Int32) (s2 : Int32) : Option ((Int32 × aH) ⊕ (aH)) := (sI h s0 s1 s2).bind fun h4 => (some (v7 + (1 : Int32))).bind fun t5 => some (.inl (t5, h4))
def f_X12_answered_j102 (h : aH) (v0 : Nat) (v1 : Int32) (v2 : Int32) (v3 : Int32) (v4 : Int32) (v5 : Int32) (v6 : Int32) (v7 : Int32) (v8 : Int32) (s0 : Nat) (s1 : Int32) : Option ((Int32 × aH) ⊕ (aH)) := f_X12_answered_j104 h v0 v1 v2 v3 v4 v5 v6 v7 s0 s1 v8
def f_X12_answered_b26 (v0 : Nat) (v1 : Int32) (v2 : Int32) (v3 : Int32) (v4 : Int32) (v5 : Int32) (v6 : Int32) (v7 : Int32) (h : aH) : Option ((Int32 × aH) ⊕ (aH)) := (gR h 12 v0 0).bind fun t6 => (lI h t6 (2 : Int32)).bind fun t7 => if t7 ≤ v7 then some (.inr h) else (gR h 12 v0 34).bind fun t8 => (lI h t8 ((((1024 : Int32) * v1) + ((256 : Int32) * v6)) + v7)).bind fun t9 => (gR h 12 v0 34).bind fun t10 => if v6 = v2 then if t9 = 0 then f_X12_answered_j102 h v0 v1 v2 v3 v4 v5 v6 v7 t9 t10 ((v5 + ((256 : Int32) * v6)) + v7) else (ck h 12 v0).bind fun _ => (f_X12_kindsFor h v0 v2 v3 v7 v4).bind fun t11 => f_X12_answered_j104 h v0 v1 v2 v3 v4 v5 v6 v7 t10 ((v5 + ((256 : Int32) * v6)) + v7) (t9 &&& t11) else f_X12_answered_j102 h v0 v1 v2 v3 v4 v5 v6 v7 t9 t10 ((v5 + ((256 : Int32) * v6)) + v7)
def f_X12_answered_l26 (v0 : Nat) (v1 : Int32) (v2 : Int32) (v3 : Int32) (v4 : Int32) (v5 : Int32) (v6 : Int32) (v7 : Int32) (h : aH) : Option (aH) := whileL wN (fun q : Int32 × aH => f_X12_answered_b26 v0 v1 v2 v3 v4 v5 v6 q.1 q.2) (v7, h)
def f_X12_answered_b12 (v0 : Nat) (v1 : Int32) (v2 : Int32) (v3 : Int32) (v4 : Int32) (v5 : Int32) (v6 : Int32) (h : aH) : Option ((Int32 × aH) ⊕ (aH)) := (gR h 12 v0 0).bind fun t2 => (lI h t2 (4 : Int32)).bind fun t3 => if t3 ≤ v6 then some (.inr h) else (f_X12_answered_l26 v0 v1 v2 v3 v4 v5 v6 (0 : Int32) h).bind fun h12 => (some (v6 + (1 : Int32))).bind fun t13 => some (.inl (t13, h12))
def f_X12_answered_l12 (v0 : Nat) (v1 : Int32) (v2 : Int32) (v3 : Int32) (v4 : Int32) (v5 : Int32) (v6 : Int32) (h : aH) : Option (aH) := whileL wN (fun q : Int32 × aH => f_X12_answered_b12 v0 v1 v2 v3 v4 v5 q.1 q.2) (v6, h)
def f_X12_answered (h : aH) (v0 : Nat) (v1 : Int32) (v2 : Int32) (v3 : Int32) (v4 : Int32) : Option (Int32 × aH) := (some ((1024 : Int32) * (v1 + (1 : Int32)))).bind fun t1 => (f_X12_answered_l12 v0 v1 v2 v3 v4 t1 (0 : Int32) h).bind fun h14 => (ck h14 12 v0).bind fun _ => (f_X12_leftAt h14 v0 (v1 + (1 : Int32))).bind fun t15 => some (t15, h14)
theorem s_X12_answered {h : aH} {v0 : Nat} {v1 : Int32} {v2 : Int32} {v3 : Int32} {v4 : Int32} {out : Int32 × aH} (hf0 : f_X12_answered h v0 v1 v2 v3 v4 = some out) : EV 4 yX12_answered cX12_answered 9 (some .int) h [.ref v0, .int v1, .int v2, .int v3, .int v4] (some (.int out.1)) out.2 0 0 := by
  refine EV.of (own := RX12) (lv0 := [(0, .ref v0), (1, .int v1), (2, .int v2), (3, .int v3), (4, .int v4)]) (by decide +kernel) rfl rfl (Nat.le_of_ble_eq_true rfl) ?_
  intro p l e s m args below meth c D cA B Hb C hin
  unfold f_X12_answered at hf0
  refine r_sipush (v := 1024) C dX12_answered_0 (by decide) ?_
  refine r_iload_n C dX12_answered_3 rfl ?_
  refine r_iconst (v := 1) C dX12_answered_4 (by decide) ?_
  refine r_iadd C dX12_answered_5 ?_
  refine r_imul C dX12_answered_6 ?_
  obtain ⟨t1, e2, hf0⟩ := ob hf0
  refine r_istore (lv' := [(5, .int t1), (0, .ref v0), (1, .int v1), (2, .int v2), (3, .int v3), (4, .int v4)]) C dX12_answered_7 (by decide) e2 rfl ?_
  refine r_iconst (v := 0) C dX12_answered_9 (by decide) ?_
  refine r_istore (lv' := [(6, .int (0 : Int32)), (5, .int t1), (0, .ref v0), (1, .int v1), (2, .int v2), (3, .int v3), (4, .int v4)]) C dX12_answered_10 (by decide) rfl rfl ?_
  obtain ⟨y3, hl12, hf0⟩ := ob hf0
  have L12 : ∀ (n : Nat) (t4 : Int32) (h5 : aH), whileL n (fun q : Int32 × aH => f_X12_answered_b12 v0 v1 v2 v3 v4 t1 q.1 q.2) (t4, h5) = some y3 → gW p l e (rmO 4 0 0) s m args below meth c (MQ below (eQ D cA B Hb out.2 (some (.int out.1))) args s 0 0 (fun q => B ≤ q)) D cA B Hb 9 h5 12 [(0, .ref v0), (1, .int v1), (2, .int v2), (3, .int v3), (4, .int v4), (5, .int t1), (6, .int t4)] [] 0 0 := by
    intro n
    induction n with
    | zero => intro t4 h5 hz; cases hz
    | succ n ih12 =>
      intro t4 h5 hz
      obtain ⟨x12, hf1, hk12⟩ := wl hz
      replace hf1 : f_X12_answered_b12 v0 v1 v2 v3 v4 t1 t4 h5 = some x12 := hf1
      unfold f_X12_answered_b12 at hf1
      refine r_iload C dX12_answered_12 rfl ?_
      refine r_aload_n C dX12_answered_14 rfl ?_
      obtain ⟨t6, e7, hf1⟩ := ob hf1
      refine r_getR C fk_X12_7 rfl dX12_answered_15 e7 ?_
      refine r_iconst (v := 4) C dX12_answered_18 (by decide) ?_
      obtain ⟨t8, e9, hf1⟩ := ob hf1
      refine r_ldI C dX12_answered_19 e9 ?_
      refine r_icmp_ge (tgt := 117) C dX12_answered_20 (by decide) (fun c10 => ?_) (fun c10 => ?_)
      · rw [if_pos c10] at hf1
        obtain rfl := so hf1
        obtain rfl := so (show some h5 = some y3 from hk12)
        refine r_aload_n C dX12_answered_117 rfl ?_
        refine r_iload_n C dX12_answered_118 rfl ?_
        refine r_iconst (v := 1) C dX12_answered_119 (by decide) ?_
        refine r_iadd C dX12_answered_120 ?_
        obtain ⟨u12, e11, hf0⟩ := ob hf0
        obtain ⟨t13, e14, hf0⟩ := ob hf0
        refine r_cV (ci := 12) (rest := []) (st2 := [.int t13]) C (s_X12_leftAt e14) mk_X12_leftAt rfl (ck_k e11) (by decide) im_X12_leftAt sl_X12_leftAt lk_X12_391 rfl rfl rfl dX12_answered_121 (Nat.le_of_ble_eq_true rfl) ⟨Nat.le_of_ble_eq_true rfl, Nat.le_of_ble_eq_true rfl⟩ ⟨Nat.le_of_ble_eq_true rfl, Nat.le_of_ble_eq_true rfl⟩ ?_
        obtain rfl := so hf0
        exact r_iret C dX12_answered_124
      · rw [if_neg c10] at hf1
        refine r_iconst (v := 0) C dX12_answered_23 (by decide) ?_
        refine r_istore (lv' := [(7, .int (0 : Int32)), (0, .ref v0), (1, .int v1), (2, .int v2), (3, .int v3), (4, .int v4), (5, .int t1), (6, .int t4)]) C dX12_answered_24 (by decide) rfl rfl ?_
        obtain ⟨y15, hl26, hf1⟩ := ob hf1
        have L26 : ∀ (n : Nat) (t16 : Int32) (h17 : aH), whileL n (fun q : Int32 × aH => f_X12_answered_b26 v0 v1 v2 v3 v4 t1 t4 q.1 q.2) (t16, h17) = some y15 → gW p l e (rmO 4 0 0) s m args below meth c (MQ below (eQ D cA B Hb out.2 (some (.int out.1))) args s 0 0 (fun q => B ≤ q)) D cA B Hb 9 h17 26 [(0, .ref v0), (1, .int v1), (2, .int v2), (3, .int v3), (4, .int v4), (5, .int t1), (6, .int t4), (7, .int t16)] [] 0 0 := by
          intro n
          induction n with
          | zero => intro t16 h17 hz; cases hz
          | succ n ih26 =>
            intro t16 h17 hz
            obtain ⟨x26, hf2, hk26⟩ := wl hz
            replace hf2 : f_X12_answered_b26 v0 v1 v2 v3 v4 t1 t4 t16 h17 = some x26 := hf2
            unfold f_X12_answered_b26 at hf2
            have J104 : ∀ (h18 : aH) (t19 : Int32) (t20 : Nat) (t21 : Int32) (t22 : Int32), f_X12_answered_j104 h18 v0 v1 v2 v3 v4 t1 t4 t19 t20 t21 t22 = some x26 → gW p l e (rmO 4 0 0) s m args below meth c (MQ below (eQ D cA B Hb out.2 (some (.int out.1))) args s 0 0 (fun q => B ≤ q)) D cA B Hb 9 h18 104 [(0, .ref v0), (1, .int v1), (2, .int v2), (3, .int v3), (4, .int v4), (5, .int t1), (6, .int t4), (7, .int t19)] [.int t22, .int t21, .ref t20] 0 0 := by
              intro h18 t19 t20 t21 t22 hf2
              unfold f_X12_answered_j104 at hf2
              obtain ⟨h23, e24, hf2⟩ := ob hf2
              refine r_stI C dX12_answered_104 e24 ?_
              obtain ⟨t25, e26, hf2⟩ := ob hf2
              refine r_iinc (lv' := [(7, .int t25), (0, .ref v0), (1, .int v1), (2, .int v2), (3, .int v3), (4, .int v4), (5, .int t1), (6, .int t4)]) C dX12_answered_105 rfl e26 (by decide) rfl ?_
              refine r_goto (tgt := 26) C dX12_answered_108 (by decide) ?_
              obtain rfl := so hf2
              refine r_subk [1, 2, 3, 4, 5, 6, 7, 0] (lv' := [(0, .ref v0), (1, .int v1), (2, .int v2), (3, .int v3), (4, .int v4), (5, .int t1), (6, .int t4), (7, .int t25)]) rfl ?_
              exact ih26 t25 h23 hk26
            have J102 : ∀ (h27 : aH) (t28 : Int32) (t29 : Int32) (t30 : Nat) (t31 : Int32), f_X12_answered_j102 h27 v0 v1 v2 v3 v4 t1 t4 t28 t29 t30 t31 = some x26 → gW p l e (rmO 4 0 0) s m args below meth c (MQ below (eQ D cA B Hb out.2 (some (.int out.1))) args s 0 0 (fun q => B ≤ q)) D cA B Hb 9 h27 102 [(0, .ref v0), (1, .int v1), (2, .int v2), (3, .int v3), (4, .int v4), (5, .int t1), (6, .int t4), (7, .int t28), (8, .int t29)] [.int t31, .ref t30] 0 0 := by
              intro h27 t28 t29 t30 t31 hf2
              unfold f_X12_answered_j102 at hf2
              refine r_iload C dX12_answered_102 rfl ?_
              refine r_subk [0, 1, 2, 3, 4, 5, 6, 7] (lv' := [(0, .ref v0), (1, .int v1), (2, .int v2), (3, .int v3), (4, .int v4), (5, .int t1), (6, .int t4), (7, .int t28)]) rfl ?_
              exact J104 h27 t28 t30 t31 t29 hf2
            refine r_iload C dX12_answered_26 rfl ?_
            refine r_aload_n C dX12_answered_28 rfl ?_
            obtain ⟨t32, e33, hf2⟩ := ob hf2
            refine r_getR C fk_X12_7 rfl dX12_answered_29 e33 ?_
            refine r_iconst (v := 2) C dX12_answered_32 (by decide) ?_
            obtain ⟨t34, e35, hf2⟩ := ob hf2
            refine r_ldI C dX12_answered_33 e35 ?_
            refine r_icmp_ge (tgt := 111) C dX12_answered_34 (by decide) (fun c36 => ?_) (fun c36 => ?_)
            · rw [if_pos c36] at hf2
              obtain rfl := so hf2
              obtain rfl := so (show some h17 = some y15 from hk26)
              obtain ⟨t37, e38, hf1⟩ := ob hf1
              refine r_iinc (lv' := [(6, .int t37), (0, .ref v0), (1, .int v1), (2, .int v2), (3, .int v3), (4, .int v4), (5, .int t1), (7, .int t16)]) C dX12_answered_111 rfl e38 (by decide) rfl ?_
              refine r_goto (tgt := 12) C dX12_answered_114 (by decide) ?_
              obtain rfl := so hf1
              refine r_subk [1, 2, 3, 4, 5, 6, 0] (lv' := [(0, .ref v0), (1, .int v1), (2, .int v2), (3, .int v3), (4, .int v4), (5, .int t1), (6, .int t37)]) rfl ?_
              exact ih12 t37 h17 hk12
            · rw [if_neg c36] at hf2
              refine r_aload_n C dX12_answered_37 rfl ?_
              obtain ⟨t39, e40, hf2⟩ := ob hf2
              refine r_getR C fk_X12_69 rfl dX12_answered_38 e40 ?_
              refine r_sipush (v := 1024) C dX12_answered_41 (by decide) ?_
              refine r_iload_n C dX12_answered_44 rfl ?_
              refine r_imul C dX12_answered_45 ?_
              refine r_sipush (v := 256) C dX12_answered_46 (by decide) ?_
              refine r_iload C dX12_answered_49 rfl ?_
              refine r_imul C dX12_answered_51 ?_
              refine r_iadd C dX12_answered_52 ?_
              refine r_iload C dX12_answered_53 rfl ?_
              refine r_iadd C dX12_answered_55 ?_
              obtain ⟨t41, e42, hf2⟩ := ob hf2
              refine r_ldI C dX12_answered_56 e42 ?_
              refine r_istore (lv' := [(8, .int t41), (0, .ref v0), (1, .int v1), (2, .int v2), (3, .int v3), (4, .int v4), (5, .int t1), (6, .int t4), (7, .int t16)]) C dX12_answered_57 (by decide) rfl rfl ?_
              refine r_aload_n C dX12_answered_59 rfl ?_
              obtain ⟨t43, e44, hf2⟩ := ob hf2
              refine r_getR C fk_X12_69 rfl dX12_answered_60 e44 ?_
              refine r_iload C dX12_answered_63 rfl ?_
              refine r_sipush (v := 256) C dX12_answered_65 (by decide) ?_
              refine r_iload C dX12_answered_68 rfl ?_
              refine r_imul C dX12_answered_70 ?_
              refine r_iadd C dX12_answered_71 ?_
              refine r_iload C dX12_answered_72 rfl ?_
              refine r_iadd C dX12_answered_74 ?_
              refine r_iload C dX12_answered_75 rfl ?_
              refine r_iload_n C dX12_answered_77 rfl ?_
              refine r_icmp_ne (tgt := 102) C dX12_answered_78 (by decide) (fun c45 => ?_) (fun c45 => ?_)
              · rw [if_neg c45] at hf2
                refine r_subk [1, 2, 3, 4, 5, 6, 7, 8, 0] (lv' := [(0, .ref v0), (1, .int v1), (2, .int v2), (3, .int v3), (4, .int v4), (5, .int t1), (6, .int t4), (7, .int t16), (8, .int t41)]) rfl ?_
                exact J102 h17 t16 t41 t43 ((t1 + ((256 : Int32) * t4)) + t16) hf2
              · rw [if_pos c45] at hf2
                refine r_iload C dX12_answered_81 rfl ?_
                refine r_ifeq (tgt := 102) C dX12_answered_83 (by decide) (fun c46 => ?_) (fun c46 => ?_)
                · rw [if_pos c46] at hf2
                  refine r_subk [1, 2, 3, 4, 5, 6, 7, 8, 0] (lv' := [(0, .ref v0), (1, .int v1), (2, .int v2), (3, .int v3), (4, .int v4), (5, .int t1), (6, .int t4), (7, .int t16), (8, .int t41)]) rfl ?_
                  exact J102 h17 t16 t41 t43 ((t1 + ((256 : Int32) * t4)) + t16) hf2
                · rw [if_neg c46] at hf2
                  refine r_iload C dX12_answered_86 rfl ?_
                  refine r_aload_n C dX12_answered_88 rfl ?_
                  refine r_iload_n C dX12_answered_89 rfl ?_
                  refine r_iload_n C dX12_answered_90 rfl ?_
                  refine r_iload C dX12_answered_91 rfl ?_
                  refine r_iload C dX12_answered_93 rfl ?_
                  obtain ⟨u48, e47, hf2⟩ := ob hf2
                  obtain ⟨t49, e50, hf2⟩ := ob hf2
                  refine r_cV (ci := 12) (rest := [.int t41, .int ((t1 + ((256 : Int32) * t4)) + t16), .ref t43]) (st2 := [.int t49, .int t41, .int ((t1 + ((256 : Int32) * t4)) + t16), .ref t43]) C (s_X12_kindsFor e50) mk_X12_kindsFor rfl (ck_k e47) (by decide) im_X12_kindsFor sl_X12_kindsFor lk_X12_375 rfl rfl rfl dX12_answered_95 (Nat.le_of_ble_eq_true rfl) ⟨Nat.le_of_ble_eq_true rfl, Nat.le_of_ble_eq_true rfl⟩ ⟨Nat.le_of_ble_eq_true rfl, Nat.le_of_ble_eq_true rfl⟩ ?_
                  refine r_iand C dX12_answered_98 ?_
                  refine r_goto (tgt := 104) C dX12_answered_99 (by decide) ?_
                  refine r_subk [1, 2, 3, 4, 5, 6, 7, 8] (lv' := [(0, .ref v0), (1, .int v1), (2, .int v2), (3, .int v3), (4, .int v4), (5, .int t1), (6, .int t4), (7, .int t16)]) rfl ?_
                  exact J104 h17 t16 t43 ((t1 + ((256 : Int32) * t4)) + t16) (t41 &&& t49) hf2
        refine r_subk [1, 2, 3, 4, 5, 6, 7, 0] (lv' := [(0, .ref v0), (1, .int v1), (2, .int v2), (3, .int v3), (4, .int v4), (5, .int t1), (6, .int t4), (7, .int (0 : Int32))]) rfl ?_
        exact L26 wN (0 : Int32) h5 hl26
  refine r_subk [2, 3, 4, 5, 6, 1, 0] (lv' := [(0, .ref v0), (1, .int v1), (2, .int v2), (3, .int v3), (4, .int v4), (5, .int t1), (6, .int (0 : Int32))]) rfl ?_
  exact L12 wN (0 : Int32) h hl12
def f_X12_worstOf_b5 (v0 : Nat) (v1 : Int32) (v2 : Int32) (v3 : Int32) (v4 : Int32) (h : aH) : Option ((Int32 × Int32 × aH) ⊕ (Int32 × aH)) := (gR h 12 v0 0).bind fun t1 => (lI h t1 (3 : Int32)).bind fun t2 => if ((2 : Int32) * t2) ≤ v4 then some (.inr (v3, h)) else (ck h 12 v0).bind fun _ => bd2 (f_X12_answered h v0 (0 : Int32) v1 v2 v4) fun t3 h4 => (some (mxI v3 t3)).bind fun t5 => (some (v4 + (1 : Int32))).bind fun t6 => some (.inl (t5, t6, h4))
def f_X12_worstOf_l5 (v0 : Nat) (v1 : Int32) (v2 : Int32) (v3 : Int32) (v4 : Int32) (h : aH) : Option (Int32 × aH) := whileL wN (fun q : Int32 × Int32 × aH => f_X12_worstOf_b5 v0 v1 v2 q.1 q.2.1 q.2.2) (v3, v4, h)
def f_X12_worstOf (h : aH) (v0 : Nat) (v1 : Int32) (v2 : Int32) : Option (Int32 × aH) := bd2 (f_X12_worstOf_l5 v0 v1 v2 (0 : Int32) (0 : Int32) h) fun t7 h8 => some (t7, h8)
theorem s_X12_worstOf {h : aH} {v0 : Nat} {v1 : Int32} {v2 : Int32} {out : Int32 × aH} (hf0 : f_X12_worstOf h v0 v1 v2 = some out) : EV 5 yX12_worstOf cX12_worstOf 5 (some .int) h [.ref v0, .int v1, .int v2] (some (.int out.1)) out.2 0 0 := by
  refine EV.of (own := RX12) (lv0 := [(0, .ref v0), (1, .int v1), (2, .int v2)]) (by decide +kernel) rfl rfl (Nat.le_of_ble_eq_true rfl) ?_
  intro p l e s m args below meth c D cA B Hb C hin
  unfold f_X12_worstOf at hf0
  refine r_iconst (v := 0) C dX12_worstOf_0 (by decide) ?_
  refine r_istore_n (lv' := [(3, .int (0 : Int32)), (0, .ref v0), (1, .int v1), (2, .int v2)]) C dX12_worstOf_1 (by decide) rfl rfl ?_
  refine r_iconst (v := 0) C dX12_worstOf_2 (by decide) ?_
  refine r_istore (lv' := [(4, .int (0 : Int32)), (3, .int (0 : Int32)), (0, .ref v0), (1, .int v1), (2, .int v2)]) C dX12_worstOf_3 (by decide) rfl rfl ?_
  obtain ⟨y1, y2, hl5, hf0⟩ := ob2 hf0
  have L5 : ∀ (n : Nat) (t3 : Int32) (t4 : Int32) (h5 : aH), whileL n (fun q : Int32 × Int32 × aH => f_X12_worstOf_b5 v0 v1 v2 q.1 q.2.1 q.2.2) (t3, t4, h5) = some (y1, y2) → gW p l e (rmO 5 0 0) s m args below meth c (MQ below (eQ D cA B Hb out.2 (some (.int out.1))) args s 0 0 (fun q => B ≤ q)) D cA B Hb 5 h5 5 [(0, .ref v0), (1, .int v1), (2, .int v2), (3, .int t3), (4, .int t4)] [] 0 0 := by
    intro n
    induction n with
    | zero => intro t3 t4 h5 hz; cases hz
    | succ n ih5 =>
      intro t3 t4 h5 hz
      obtain ⟨x5, hf1, hk5⟩ := wl hz
      replace hf1 : f_X12_worstOf_b5 v0 v1 v2 t3 t4 h5 = some x5 := hf1
      unfold f_X12_worstOf_b5 at hf1
      refine r_iload C dX12_worstOf_5 rfl ?_
      refine r_iconst (v := 2) C dX12_worstOf_7 (by decide) ?_
      refine r_aload_n C dX12_worstOf_8 rfl ?_
      obtain ⟨t6, e7, hf1⟩ := ob hf1
      refine r_getR C fk_X12_7 rfl dX12_worstOf_9 e7 ?_
      refine r_iconst (v := 3) C dX12_worstOf_12 (by decide) ?_
      obtain ⟨t8, e9, hf1⟩ := ob hf1
      refine r_ldI C dX12_worstOf_13 e9 ?_
      refine r_imul C dX12_worstOf_14 ?_
      refine r_icmp_ge (tgt := 38) C dX12_worstOf_15 (by decide) (fun c10 => ?_) (fun c10 => ?_)
      · rw [if_pos c10] at hf1
        obtain rfl := so hf1
        obtain ⟨rfl, rfl⟩ := so2 (show some (t3, h5) = some (y1, y2) from hk5)
        refine r_iload_n C dX12_worstOf_38 rfl ?_
        obtain rfl := so hf0
        exact r_iret C dX12_worstOf_39
      · rw [if_neg c10] at hf1
        refine r_iload_n C dX12_worstOf_18 rfl ?_
        refine r_aload_n C dX12_worstOf_19 rfl ?_
        refine r_iconst (v := 0) C dX12_worstOf_20 (by decide) ?_
        refine r_iload_n C dX12_worstOf_21 rfl ?_
        refine r_iload_n C dX12_worstOf_22 rfl ?_
        refine r_iload C dX12_worstOf_23 rfl ?_
        obtain ⟨u12, e11, hf1⟩ := ob hf1
        obtain ⟨t13, h14, e15, hf1⟩ := ob2 hf1
        refine r_cV (ci := 12) (rest := [.int t3]) (st2 := [.int t13, .int t3]) C (s_X12_answered e15) mk_X12_answered rfl (ck_k e11) (by decide) im_X12_answered sl_X12_answered lk_X12_421 rfl rfl rfl dX12_worstOf_25 (Nat.le_of_ble_eq_true rfl) ⟨Nat.le_of_ble_eq_true rfl, Nat.le_of_ble_eq_true rfl⟩ ⟨Nat.le_of_ble_eq_true rfl, Nat.le_of_ble_eq_true rfl⟩ ?_
        refine r_mmax C lk_X12_424 dX12_worstOf_28 ⟨Nat.le_of_ble_eq_true rfl, Nat.le_of_ble_eq_true rfl⟩ (Nat.le_of_ble_eq_true rfl) ⟨Nat.le_of_ble_eq_true rfl, Nat.le_of_ble_eq_true rfl⟩ ?_
        obtain ⟨t16, e17, hf1⟩ := ob hf1
        refine r_istore_n (lv' := [(3, .int t16), (0, .ref v0), (1, .int v1), (2, .int v2), (4, .int t4)]) C dX12_worstOf_31 (by decide) e17 rfl ?_
        obtain ⟨t18, e19, hf1⟩ := ob hf1
        refine r_iinc (lv' := [(4, .int t18), (3, .int t16), (0, .ref v0), (1, .int v1), (2, .int v2)]) C dX12_worstOf_32 rfl e19 (by decide) rfl ?_
        refine r_goto (tgt := 5) C dX12_worstOf_35 (by decide) ?_
        obtain rfl := so hf1
        refine r_subk [2, 3, 4, 1, 0] (lv' := [(0, .ref v0), (1, .int v1), (2, .int v2), (3, .int t16), (4, .int t18)]) rfl ?_
        exact ih5 t16 t18 h14 hk5
  refine r_subk [2, 3, 4, 1, 0] (lv' := [(0, .ref v0), (1, .int v1), (2, .int v2), (3, .int (0 : Int32)), (4, .int (0 : Int32))]) rfl ?_
  exact L5 wN (0 : Int32) (0 : Int32) h hl5
def f_X12_worst_j16 (h : aH) (v0 : Nat) : Option (Int32 × aH) := (ck h 12 v0).bind fun _ => bd2 (f_X12_refuse h v0 (1 : Int32)) fun t1 h2 => some (t1, h2)
def f_X12_worst (h : aH) (v0 : Nat) (v1 : Int32) (v2 : Int32) : Option (Int32 × aH) := (ck h 12 v0).bind fun _ => (f_X12_isWitness h v0 v1).bind fun t3 => if t3 = 0 then f_X12_worst_j16 h v0 else (ck h 12 v0).bind fun _ => (f_X12_isQuestion h v0 v2).bind fun t4 => if t4 = 0 then f_X12_worst_j16 h v0 else (ck h 12 v0).bind fun _ => (f_X12_fitsAll h v0).bind fun h5 => (ck h5 12 v0).bind fun _ => (f_X12_leftAt h5 v0 (0 : Int32)).bind fun t6 => if t6 = 0 then (ck h5 12 v0).bind fun _ => bd2 (f_X12_refuse h5 v0 (6 : Int32)) fun t15 h16 => some (t15, h16) else (gR h5 12 v0 35).bind fun t7 => (lZ h5 t7 v2).bind fun t8 => if t8 = 0 then (ck h5 12 v0).bind fun _ => bd2 (f_X12_worstOf h5 v0 v1 v2) fun t9 h10 => (ck h10 12 v0).bind fun _ => bd2 (f_X12_gives h10 v0 t9) fun t11 h12 => some (t11, h12) else (ck h5 12 v0).bind fun _ => bd2 (f_X12_refuse h5 v0 (7 : Int32)) fun t13 h14 => some (t13, h14)
theorem s_X12_worst {h : aH} {v0 : Nat} {v1 : Int32} {v2 : Int32} {out : Int32 × aH} (hf0 : f_X12_worst h v0 v1 v2 = some out) : EV 6 yX12_worst cX12_worst 3 (some .int) h [.ref v0, .int v1, .int v2] (some (.int out.1)) out.2 0 0 := by
  refine EV.of (own := RX12) (lv0 := [(0, .ref v0), (1, .int v1), (2, .int v2)]) (by decide +kernel) rfl rfl (Nat.le_of_ble_eq_true rfl) ?_
  intro p l e s m args below meth c D cA B Hb C hin
  unfold f_X12_worst at hf0
  have J16 : ∀ (h1 : aH) (t2 : Nat), f_X12_worst_j16 h1 t2 = some out → gW p l e (rmO 6 0 0) s m args below meth c (MQ below (eQ D cA B Hb out.2 (some (.int out.1))) args s 0 0 (fun q => B ≤ q)) D cA B Hb 3 h1 16 [(0, .ref t2)] [] 0 0 := by
    intro h1 t2 hf0
    unfold f_X12_worst_j16 at hf0
    refine r_aload_n C dX12_worst_16 rfl ?_
    refine r_iconst (v := 1) C dX12_worst_17 (by decide) ?_
    obtain ⟨u4, e3, hf0⟩ := ob hf0
    obtain ⟨t5, h6, e7, hf0⟩ := ob2 hf0
    refine r_cV (ci := 12) (rest := []) (st2 := [.int t5]) C (s_X12_refuse e7) mk_X12_refuse rfl (ck_k e3) (by decide) im_X12_refuse sl_X12_refuse lk_X12_197 rfl rfl rfl dX12_worst_18 (Nat.le_of_ble_eq_true rfl) ⟨Nat.le_of_ble_eq_true rfl, Nat.le_of_ble_eq_true rfl⟩ ⟨Nat.le_of_ble_eq_true rfl, Nat.le_of_ble_eq_true rfl⟩ ?_
    obtain rfl := so hf0
    exact r_iret C dX12_worst_21
  refine r_aload_n C dX12_worst_0 rfl ?_
  refine r_iload_n C dX12_worst_1 rfl ?_
  obtain ⟨u9, e8, hf0⟩ := ob hf0
  obtain ⟨t10, e11, hf0⟩ := ob hf0
  refine r_cV (ci := 12) (rest := []) (st2 := [.int t10]) C (s_X12_isWitness e11) mk_X12_isWitness rfl (ck_k e8) (by decide) im_X12_isWitness sl_X12_isWitness lk_X12_340 rfl rfl rfl dX12_worst_2 (Nat.le_of_ble_eq_true rfl) ⟨Nat.le_of_ble_eq_true rfl, Nat.le_of_ble_eq_true rfl⟩ ⟨Nat.le_of_ble_eq_true rfl, Nat.le_of_ble_eq_true rfl⟩ ?_
  refine r_ifeq (tgt := 16) C dX12_worst_5 (by decide) (fun c12 => ?_) (fun c12 => ?_)
  · rw [if_pos c12] at hf0
    refine r_subk [0] (lv' := [(0, .ref v0)]) rfl ?_
    exact J16 h v0 hf0
  · rw [if_neg c12] at hf0
    refine r_aload_n C dX12_worst_8 rfl ?_
    refine r_iload_n C dX12_worst_9 rfl ?_
    obtain ⟨u14, e13, hf0⟩ := ob hf0
    obtain ⟨t15, e16, hf0⟩ := ob hf0
    refine r_cV (ci := 12) (rest := []) (st2 := [.int t15]) C (s_X12_isQuestion e16) mk_X12_isQuestion rfl (ck_k e13) (by decide) im_X12_isQuestion sl_X12_isQuestion lk_X12_334 rfl rfl rfl dX12_worst_10 (Nat.le_of_ble_eq_true rfl) ⟨Nat.le_of_ble_eq_true rfl, Nat.le_of_ble_eq_true rfl⟩ ⟨Nat.le_of_ble_eq_true rfl, Nat.le_of_ble_eq_true rfl⟩ ?_
    refine r_ifne (tgt := 22) C dX12_worst_13 (by decide) (fun c17 => ?_) (fun c17 => ?_)
    · rw [if_neg c17] at hf0
      refine r_aload_n C dX12_worst_22 rfl ?_
      obtain ⟨u19, e18, hf0⟩ := ob hf0
      obtain ⟨h20, e21, hf0⟩ := ob hf0
      refine r_cV (ci := 12) (rest := []) (st2 := []) C (s_X12_fitsAll e21) mk_X12_fitsAll rfl (ck_k e18) (by decide) im_X12_fitsAll sl_X12_fitsAll lk_X12_388 rfl rfl rfl dX12_worst_23 (Nat.le_of_ble_eq_true rfl) ⟨Nat.le_of_ble_eq_true rfl, Nat.le_of_ble_eq_true rfl⟩ ⟨Nat.le_of_ble_eq_true rfl, Nat.le_of_ble_eq_true rfl⟩ ?_
      refine r_aload_n C dX12_worst_26 rfl ?_
      refine r_iconst (v := 0) C dX12_worst_27 (by decide) ?_
      obtain ⟨u23, e22, hf0⟩ := ob hf0
      obtain ⟨t24, e25, hf0⟩ := ob hf0
      refine r_cV (ci := 12) (rest := []) (st2 := [.int t24]) C (s_X12_leftAt e25) mk_X12_leftAt rfl (ck_k e22) (by decide) im_X12_leftAt sl_X12_leftAt lk_X12_391 rfl rfl rfl dX12_worst_28 (Nat.le_of_ble_eq_true rfl) ⟨Nat.le_of_ble_eq_true rfl, Nat.le_of_ble_eq_true rfl⟩ ⟨Nat.le_of_ble_eq_true rfl, Nat.le_of_ble_eq_true rfl⟩ ?_
      refine r_ifne (tgt := 41) C dX12_worst_31 (by decide) (fun c26 => ?_) (fun c26 => ?_)
      · rw [if_neg c26] at hf0
        refine r_aload_n C dX12_worst_41 rfl ?_
        obtain ⟨t27, e28, hf0⟩ := ob hf0
        refine r_getR C fk_X12_72 rfl dX12_worst_42 e28 ?_
        refine r_iload_n C dX12_worst_45 rfl ?_
        obtain ⟨t29, e30, hf0⟩ := ob hf0
        refine r_ldZ C dX12_worst_46 e30 ?_
        refine r_ifeq (tgt := 59) C dX12_worst_47 (by decide) (fun c31 => ?_) (fun c31 => ?_)
        · rw [if_pos c31] at hf0
          refine r_aload_n C dX12_worst_59 rfl ?_
          refine r_aload_n C dX12_worst_60 rfl ?_
          refine r_iload_n C dX12_worst_61 rfl ?_
          refine r_iload_n C dX12_worst_62 rfl ?_
          obtain ⟨u33, e32, hf0⟩ := ob hf0
          obtain ⟨t34, h35, e36, hf0⟩ := ob2 hf0
          refine r_cV (ci := 12) (rest := [.ref v0]) (st2 := [.int t34, .ref v0]) C (s_X12_worstOf e36) mk_X12_worstOf rfl (ck_k e32) (by decide) im_X12_worstOf sl_X12_worstOf lk_X12_427 rfl rfl rfl dX12_worst_63 (Nat.le_of_ble_eq_true rfl) ⟨Nat.le_of_ble_eq_true rfl, Nat.le_of_ble_eq_true rfl⟩ ⟨Nat.le_of_ble_eq_true rfl, Nat.le_of_ble_eq_true rfl⟩ ?_
          obtain ⟨u38, e37, hf0⟩ := ob hf0
          obtain ⟨t39, h40, e41, hf0⟩ := ob2 hf0
          refine r_cV (ci := 12) (rest := []) (st2 := [.int t39]) C (s_X12_gives e41) mk_X12_gives rfl (ck_k e37) (by decide) im_X12_gives sl_X12_gives lk_X12_200 rfl rfl rfl dX12_worst_66 (Nat.le_of_ble_eq_true rfl) ⟨Nat.le_of_ble_eq_true rfl, Nat.le_of_ble_eq_true rfl⟩ ⟨Nat.le_of_ble_eq_true rfl, Nat.le_of_ble_eq_true rfl⟩ ?_
          obtain rfl := so hf0
          exact r_iret C dX12_worst_69
        · rw [if_neg c31] at hf0
          refine r_aload_n C dX12_worst_50 rfl ?_
          refine r_bipush (v := 7) C dX12_worst_51 (by decide) ?_
          obtain ⟨u43, e42, hf0⟩ := ob hf0
          obtain ⟨t44, h45, e46, hf0⟩ := ob2 hf0
          refine r_cV (ci := 12) (rest := []) (st2 := [.int t44]) C (s_X12_refuse e46) mk_X12_refuse rfl (ck_k e42) (by decide) im_X12_refuse sl_X12_refuse lk_X12_197 rfl rfl rfl dX12_worst_53 (Nat.le_of_ble_eq_true rfl) ⟨Nat.le_of_ble_eq_true rfl, Nat.le_of_ble_eq_true rfl⟩ ⟨Nat.le_of_ble_eq_true rfl, Nat.le_of_ble_eq_true rfl⟩ ?_
          refine r_goto (tgt := 69) C dX12_worst_56 (by decide) ?_
          obtain rfl := so hf0
          exact r_iret C dX12_worst_69
      · rw [if_pos c26] at hf0
        refine r_aload_n C dX12_worst_34 rfl ?_
        refine r_bipush (v := 6) C dX12_worst_35 (by decide) ?_
        obtain ⟨u48, e47, hf0⟩ := ob hf0
        obtain ⟨t49, h50, e51, hf0⟩ := ob2 hf0
        refine r_cV (ci := 12) (rest := []) (st2 := [.int t49]) C (s_X12_refuse e51) mk_X12_refuse rfl (ck_k e47) (by decide) im_X12_refuse sl_X12_refuse lk_X12_197 rfl rfl rfl dX12_worst_37 (Nat.le_of_ble_eq_true rfl) ⟨Nat.le_of_ble_eq_true rfl, Nat.le_of_ble_eq_true rfl⟩ ⟨Nat.le_of_ble_eq_true rfl, Nat.le_of_ble_eq_true rfl⟩ ?_
        obtain rfl := so hf0
        exact r_iret C dX12_worst_40
    · rw [if_pos c17] at hf0
      refine r_subk [0] (lv' := [(0, .ref v0)]) rfl ?_
      exact J16 h v0 hf0
def f_X12_bestOf_j68 (h : aH) (v0 : Nat) (v1 : Int32) (v2 : Int32) (v3 : Int32) (v4 : Int32) : Option ((Int32 × Int32 × Int32 × aH) ⊕ (Int32 × aH)) := (some (v4 + (1 : Int32))).bind fun t1 => some (.inl (v2, v3, t1, h))
def f_X12_bestOf_j62 (h : aH) (v0 : Nat) (v1 : Int32) (v4 : Int32) (v5 : Int32) : Option ((Int32 × Int32 × Int32 × aH) ⊕ (Int32 × aH)) := f_X12_bestOf_j68 h v0 v1 v4 v5 v4
def f_X12_bestOf_b7 (v0 : Nat) (v1 : Int32) (v2 : Int32) (v3 : Int32) (v4 : Int32) (h : aH) : Option ((Int32 × Int32 × Int32 × aH) ⊕ (Int32 × aH)) := (gR h 12 v0 0).bind fun t2 => (lI h t2 (3 : Int32)).bind fun t3 => if t3 ≤ v4 then some (.inr (v2, h)) else (ck h 12 v0).bind fun _ => (f_X12_leftAt h v0 (0 : Int32)).bind fun t4 => if t4 ≤ 0 then some (.inr (v2, h)) else (gR h 12 v0 35).bind fun t5 => (lZ h t5 v4).bind fun t6 => if t6 = 0 then (ck h 12 v0).bind fun _ => bd2 (f_X12_worstOf h v0 v1 v4) fun t7 h8 => if v2 = (-1 : Int32) then f_X12_bestOf_j62 h8 v0 v1 v4 t7 else if t7 < v3 then f_X12_bestOf_j62 h8 v0 v1 v4 t7 else f_X12_bestOf_j68 h8 v0 v1 v2 v3 v4 else f_X12_bestOf_j68 h v0 v1 v2 v3 v4
def f_X12_bestOf_l7 (v0 : Nat) (v1 : Int32) (v2 : Int32) (v3 : Int32) (v4 : Int32) (h : aH) : Option (Int32 × aH) := whileL wN (fun q : Int32 × Int32 × Int32 × aH => f_X12_bestOf_b7 v0 v1 q.1 q.2.1 q.2.2.1 q.2.2.2) (v2, v3, v4, h)
def f_X12_bestOf (h : aH) (v0 : Nat) (v1 : Int32) : Option (Int32 × aH) := bd2 (f_X12_bestOf_l7 v0 v1 (-1 : Int32) (0 : Int32) (0 : Int32) h) fun t9 h10 => some (t9, h10)
theorem s_X12_bestOf {h : aH} {v0 : Nat} {v1 : Int32} {out : Int32 × aH} (hf0 : f_X12_bestOf h v0 v1 = some out) : EV 6 yX12_bestOf cX12_bestOf 6 (some .int) h [.ref v0, .int v1] (some (.int out.1)) out.2 0 0 := by
  refine EV.of (own := RX12) (lv0 := [(0, .ref v0), (1, .int v1)]) (by decide +kernel) rfl rfl (Nat.le_of_ble_eq_true rfl) ?_
  intro p l e s m args below meth c D cA B Hb C hin
  unfold f_X12_bestOf at hf0
  refine r_iconst (v := -1) C dX12_bestOf_0 (by decide) ?_
  refine r_istore_n (lv' := [(2, .int (-1 : Int32)), (0, .ref v0), (1, .int v1)]) C dX12_bestOf_1 (by decide) rfl rfl ?_
  refine r_iconst (v := 0) C dX12_bestOf_2 (by decide) ?_
  refine r_istore_n (lv' := [(3, .int (0 : Int32)), (2, .int (-1 : Int32)), (0, .ref v0), (1, .int v1)]) C dX12_bestOf_3 (by decide) rfl rfl ?_
  refine r_iconst (v := 0) C dX12_bestOf_4 (by decide) ?_
  refine r_istore (lv' := [(4, .int (0 : Int32)), (3, .int (0 : Int32)), (2, .int (-1 : Int32)), (0, .ref v0), (1, .int v1)]) C dX12_bestOf_5 (by decide) rfl rfl ?_
  obtain ⟨y1, y2, hl7, hf0⟩ := ob2 hf0
  have L7 : ∀ (n : Nat) (t3 : Int32) (t4 : Int32) (t5 : Int32) (h6 : aH), whileL n (fun q : Int32 × Int32 × Int32 × aH => f_X12_bestOf_b7 v0 v1 q.1 q.2.1 q.2.2.1 q.2.2.2) (t3, t4, t5, h6) = some (y1, y2) → gW p l e (rmO 6 0 0) s m args below meth c (MQ below (eQ D cA B Hb out.2 (some (.int out.1))) args s 0 0 (fun q => B ≤ q)) D cA B Hb 6 h6 7 [(0, .ref v0), (1, .int v1), (2, .int t3), (3, .int t4), (4, .int t5)] [] 0 0 := by
    intro n
    induction n with
    | zero => intro t3 t4 t5 h6 hz; cases hz
    | succ n ih7 =>
      intro t3 t4 t5 h6 hz
      obtain ⟨x7, hf1, hk7⟩ := wl hz
      replace hf1 : f_X12_bestOf_b7 v0 v1 t3 t4 t5 h6 = some x7 := hf1
      unfold f_X12_bestOf_b7 at hf1
      have J68 : ∀ (h7 : aH) (t8 : Int32) (t9 : Int32) (t10 : Int32), f_X12_bestOf_j68 h7 v0 v1 t8 t9 t10 = some x7 → gW p l e (rmO 6 0 0) s m args below meth c (MQ below (eQ D cA B Hb out.2 (some (.int out.1))) args s 0 0 (fun q => B ≤ q)) D cA B Hb 6 h7 68 [(0, .ref v0), (1, .int v1), (2, .int t8), (3, .int t9), (4, .int t10)] [] 0 0 := by
        intro h7 t8 t9 t10 hf1
        unfold f_X12_bestOf_j68 at hf1
        obtain ⟨t11, e12, hf1⟩ := ob hf1
        refine r_iinc (lv' := [(4, .int t11), (0, .ref v0), (1, .int v1), (2, .int t8), (3, .int t9)]) C dX12_bestOf_68 rfl e12 (by decide) rfl ?_
        refine r_goto (tgt := 7) C dX12_bestOf_71 (by decide) ?_
        obtain rfl := so hf1
        refine r_subk [1, 2, 3, 4, 0] (lv' := [(0, .ref v0), (1, .int v1), (2, .int t8), (3, .int t9), (4, .int t11)]) rfl ?_
        exact ih7 t8 t9 t11 h7 hk7
      have J62 : ∀ (h13 : aH) (t14 : Int32) (t15 : Int32), f_X12_bestOf_j62 h13 v0 v1 t14 t15 = some x7 → gW p l e (rmO 6 0 0) s m args below meth c (MQ below (eQ D cA B Hb out.2 (some (.int out.1))) args s 0 0 (fun q => B ≤ q)) D cA B Hb 6 h13 62 [(0, .ref v0), (1, .int v1), (4, .int t14), (5, .int t15)] [] 0 0 := by
        intro h13 t14 t15 hf1
        unfold f_X12_bestOf_j62 at hf1
        refine r_iload C dX12_bestOf_62 rfl ?_
        refine r_istore_n (lv' := [(2, .int t14), (0, .ref v0), (1, .int v1), (4, .int t14), (5, .int t15)]) C dX12_bestOf_64 (by decide) rfl rfl ?_
        refine r_iload C dX12_bestOf_65 rfl ?_
        refine r_istore_n (lv' := [(3, .int t15), (2, .int t14), (0, .ref v0), (1, .int v1), (4, .int t14), (5, .int t15)]) C dX12_bestOf_67 (by decide) rfl rfl ?_
        refine r_subk [2, 3, 1, 0, 4] (lv' := [(0, .ref v0), (1, .int v1), (2, .int t14), (3, .int t15), (4, .int t14)]) rfl ?_
        exact J68 h13 t14 t15 t14 hf1
      refine r_iload C dX12_bestOf_7 rfl ?_
      refine r_aload_n C dX12_bestOf_9 rfl ?_
      obtain ⟨t16, e17, hf1⟩ := ob hf1
      refine r_getR C fk_X12_7 rfl dX12_bestOf_10 e17 ?_
      refine r_iconst (v := 3) C dX12_bestOf_13 (by decide) ?_
      obtain ⟨t18, e19, hf1⟩ := ob hf1
      refine r_ldI C dX12_bestOf_14 e19 ?_
      refine r_icmp_ge (tgt := 74) C dX12_bestOf_15 (by decide) (fun c20 => ?_) (fun c20 => ?_)
      · rw [if_pos c20] at hf1
        obtain rfl := so hf1
        obtain ⟨rfl, rfl⟩ := so2 (show some (t3, h6) = some (y1, y2) from hk7)
        refine r_iload_n C dX12_bestOf_74 rfl ?_
        obtain rfl := so hf0
        exact r_iret C dX12_bestOf_75
      · rw [if_neg c20] at hf1
        refine r_aload_n C dX12_bestOf_18 rfl ?_
        refine r_iconst (v := 0) C dX12_bestOf_19 (by decide) ?_
        obtain ⟨u22, e21, hf1⟩ := ob hf1
        obtain ⟨t23, e24, hf1⟩ := ob hf1
        refine r_cV (ci := 12) (rest := []) (st2 := [.int t23]) C (s_X12_leftAt e24) mk_X12_leftAt rfl (ck_k e21) (by decide) im_X12_leftAt sl_X12_leftAt lk_X12_391 rfl rfl rfl dX12_bestOf_20 (Nat.le_of_ble_eq_true rfl) ⟨Nat.le_of_ble_eq_true rfl, Nat.le_of_ble_eq_true rfl⟩ ⟨Nat.le_of_ble_eq_true rfl, Nat.le_of_ble_eq_true rfl⟩ ?_
        refine r_ifle (tgt := 74) C dX12_bestOf_23 (by decide) (fun c25 => ?_) (fun c25 => ?_)
        · rw [if_pos c25] at hf1
          obtain rfl := so hf1
          obtain ⟨rfl, rfl⟩ := so2 (show some (t3, h6) = some (y1, y2) from hk7)
          refine r_iload_n C dX12_bestOf_74 rfl ?_
          obtain rfl := so hf0
          exact r_iret C dX12_bestOf_75
        · rw [if_neg c25] at hf1
          refine r_aload_n C dX12_bestOf_26 rfl ?_
          obtain ⟨t26, e27, hf1⟩ := ob hf1
          refine r_getR C fk_X12_72 rfl dX12_bestOf_27 e27 ?_
          refine r_iload C dX12_bestOf_30 rfl ?_
          obtain ⟨t28, e29, hf1⟩ := ob hf1
          refine r_ldZ C dX12_bestOf_32 e29 ?_
          refine r_ifeq (tgt := 39) C dX12_bestOf_33 (by decide) (fun c30 => ?_) (fun c30 => ?_)
          · rw [if_pos c30] at hf1
            refine r_aload_n C dX12_bestOf_39 rfl ?_
            refine r_iload_n C dX12_bestOf_40 rfl ?_
            refine r_iload C dX12_bestOf_41 rfl ?_
            obtain ⟨u32, e31, hf1⟩ := ob hf1
            obtain ⟨t33, h34, e35, hf1⟩ := ob2 hf1
            refine r_cV (ci := 12) (rest := []) (st2 := [.int t33]) C (s_X12_worstOf e35) mk_X12_worstOf rfl (ck_k e31) (by decide) im_X12_worstOf sl_X12_worstOf lk_X12_427 rfl rfl rfl dX12_bestOf_43 (Nat.le_of_ble_eq_true rfl) ⟨Nat.le_of_ble_eq_true rfl, Nat.le_of_ble_eq_true rfl⟩ ⟨Nat.le_of_ble_eq_true rfl, Nat.le_of_ble_eq_true rfl⟩ ?_
            refine r_istore (lv' := [(5, .int t33), (0, .ref v0), (1, .int v1), (2, .int t3), (3, .int t4), (4, .int t5)]) C dX12_bestOf_46 (by decide) rfl rfl ?_
            refine r_iload_n C dX12_bestOf_48 rfl ?_
            refine r_iconst (v := -1) C dX12_bestOf_49 (by decide) ?_
            refine r_icmp_eq (tgt := 62) C dX12_bestOf_50 (by decide) (fun c36 => ?_) (fun c36 => ?_)
            · rw [if_pos c36] at hf1
              refine r_subk [1, 2, 5, 0] (lv' := [(0, .ref v0), (1, .int v1), (4, .int t5), (5, .int t33)]) rfl ?_
              exact J62 h34 t5 t33 hf1
            · rw [if_neg c36] at hf1
              refine r_iload C dX12_bestOf_53 rfl ?_
              refine r_iload_n C dX12_bestOf_55 rfl ?_
              refine r_icmp_lt (tgt := 62) C dX12_bestOf_56 (by decide) (fun c37 => ?_) (fun c37 => ?_)
              · rw [if_pos c37] at hf1
                refine r_subk [1, 2, 5, 0] (lv' := [(0, .ref v0), (1, .int v1), (4, .int t5), (5, .int t33)]) rfl ?_
                exact J62 h34 t5 t33 hf1
              · rw [if_neg c37] at hf1
                refine r_goto (tgt := 68) C dX12_bestOf_59 (by decide) ?_
                refine r_subk [1, 2, 3, 4, 5] (lv' := [(0, .ref v0), (1, .int v1), (2, .int t3), (3, .int t4), (4, .int t5)]) rfl ?_
                exact J68 h34 t3 t4 t5 hf1
          · rw [if_neg c30] at hf1
            refine r_goto (tgt := 68) C dX12_bestOf_36 (by decide) ?_
            exact J68 h6 t3 t4 t5 hf1
  refine r_subk [3, 4, 2, 1, 0] (lv' := [(0, .ref v0), (1, .int v1), (2, .int (-1 : Int32)), (3, .int (0 : Int32)), (4, .int (0 : Int32))]) rfl ?_
  exact L7 wN (-1 : Int32) (0 : Int32) (0 : Int32) h hl7
