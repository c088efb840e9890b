/-! ===== text constants ===== -/
def scL (k : Nat) : Int32 := Int32.ofNat (stN.getD k 0)
def scN (k : Nat) : Option Int32 := if k < 2 then some (scL k) else none
def scC (k : Nat) (i : Int32) : Option Int32 := if k < 2 ∧ ¬ i < 0 ∧ i.toNatClampNeg < stN.getD k 0 then some ((stB.getD k []).getD i.toNatClampNeg 0 &&& 255) else none
theorem fkS_v : Cond.fieldLink RJ0 9 "java/lang/String" "value" "[B" ∈ tB := in_tB 2188 (by decide +kernel) (by decide +kernel)
theorem fkS_c : Cond.fieldLink RJ0 15 "java/lang/String" "coder" "B" ∈ tB := in_tB 2189 (by decide +kernel) (by decide +kernel)
theorem fkS_s : Cond.fieldLink RJ0 38 "java/lang/String" "COMPACT_STRINGS" "Z" ∈ tB := in_tB 191 (by decide +kernel) (by decide +kernel)
theorem fkS_f : Cond.fieldLink RJ0 1053 "jdk/internal/util/Preconditions" "SIOOBE_FORMATTER" "Ljava/util/function/BiFunction;" ∈ tB := in_tB 207 (by decide +kernel) (by decide +kernel)
section RS
variable {p : Program} {l : Launch} {e : Env} {R : Room} {s : State} {m : MethodId} {args : Array Value} {below : List Frame} {meth : Method} {c : Code} {Q : State → Prop} {D : va_G} {cA : Nat → ClassId} {B : Nat} {Hb : Heap} {nL : Nat} {h : aH} {pc : Nat} {lv : List (Nat × Value)} {st : List Value} {cells slots : Nat} {own : String} {cc : ByteArray} {ret : Option FieldType}
theorem r_lds0 (C : cX p s m args meth c D cA B Hb RX4 cc nL ret) (d : decode cc pc = .ok (.ldc 58, 2)) (k : gW p l e R s m args below meth c Q D cA B Hb nL h (pc + 2) lv (.retAddr 0 :: st) cells slots) : gW p l e R s m args below meth c Q D cA B Hb nL h pc lv st cells slots := fun H locs ls w hl => va_ldcS C.1 C.2.1 C.2.2.2.1 C.2.2.2.2.2.1.2.2.2.2.2.1 d (k H locs ls w hl)
theorem r_lds1 (C : cX p s m args meth c D cA B Hb RX12 cc nL ret) (d : decode cc pc = .ok (.ldc 206, 2)) (k : gW p l e R s m args below meth c Q D cA B Hb nL h (pc + 2) lv (.retAddr 1 :: st) cells slots) : gW p l e R s m args below meth c Q D cA B Hb nL h pc lv st cells slots := fun H locs ls w hl => va_ldcS C.1 C.2.1 C.2.2.2.1 C.2.2.2.2.2.1.2.2.2.2.2.2.1 d (k H locs ls w hl)
theorem wW_old {D : va_G} {cA : Nat → ClassId} {B : Nat} {Hb H : Heap} {h : aH} {locs : List Loc} {a : Nat} {cell : Cell} (w : wW D cA B Hb h H locs) (ha : ¬ B ≤ a) (hc : Hb[a]? = some cell) : H[a]? = some cell := by
  rw [w.1.2.2 a (by omega)]
  exact hc
theorem r_getS {a : Nat} {v : Value} {n d0 : String} {idx : Nat} (C : cX p s m args meth c D cA B Hb RJ0 cc nL ret) (hl : Cond.fieldLink RJ0 idx "java/lang/String" n d0 ∈ tB) (hO : va_OF "java/lang/String" n d0 (cv cA B v) (cA (30 + a)) (fun q => B ≤ q) s Hb) (d : decode cc pc = .ok (.getfield idx, 3)) (k : gW p l e R s m args below meth c Q D cA B Hb nL h (pc + 3) lv (v :: st) cells slots) : gW p l e R s m args below meth c Q D cA B Hb nL h pc lv (.retAddr a :: st) cells slots := by
  obtain ⟨cf, kf, fi, f, cell, q1, q2, q3, q4, q5, q6⟩ := hO
  exact fun H locs ls w hlv => W.getf C.1 C.2.1 C.2.2.2.1 (C.2.2.2.2.1 _ hl) q1 q2 (wW_old w q6 q3) q4 q5 rfl rfl d (k H locs ls w hlv)
theorem r_cmp (C : cX p s m args meth c D cA B Hb RJ0 cc nL ret) (d : decode cc pc = .ok (.getstatic 38, 3)) (k : gW p l e R s m args below meth c Q D cA B Hb nL h (pc + 3) lv (.int 1 :: st) cells slots) : gW p l e R s m args below meth c Q D cA B Hb nL h pc lv st cells slots := by
  obtain ⟨cf, kf, fi, f, a, cell, h1, h2, h3, h4, h5, h6, h7, h8⟩ := C.2.2.2.2.2.1.2.2.2.2.2.2.2.1
  exact fun H locs ls w hlv => W.gets C.1 C.2.1 C.2.2.2.1 (C.2.2.2.2.1 _ fkS_s) h1 h2 h3 h4 (wW_old w h8 h5) (fun e => by rw [e] at h6; cases h6) h7 rfl d (k H locs ls w hlv)
theorem r_fmt (C : cX p s m args meth c D cA B Hb RJ0 cc nL ret) (d : decode cc pc = .ok (.getstatic 1053, 3)) (k : ∀ v : Value, v = .null ∨ v = .retAddr 4 → gW p l e R s m args below meth c Q D cA B Hb nL h (pc + 3) lv (v :: st) cells slots) : gW p l e R s m args below meth c Q D cA B Hb nL h pc lv st cells slots := by
  rcases C.2.2.2.2.2.1.2.2.2.2.2.2.2.2 with hz | hz
  · obtain ⟨cf, kf, fi, f, a, cell, h1, h2, h3, h4, h5, h6, h7, h8⟩ := hz
    exact fun H locs ls w hlv => W.gets C.1 C.2.1 C.2.2.2.1 (C.2.2.2.2.1 _ fkS_f) h1 h2 h3 h4 (wW_old w h8 h5) (fun e => by rw [e] at h6; cases h6) h7 rfl d (k .null (Or.inl rfl) H locs ls w hlv)
  · obtain ⟨cf, kf, fi, f, a, cell, h1, h2, h3, h4, h5, h6, h7, h8⟩ := hz
    exact fun H locs ls w hlv => W.gets C.1 C.2.1 C.2.2.2.1 (C.2.2.2.2.1 _ fkS_f) h1 h2 h3 h4 (wW_old w h8 h5) (fun e => by rw [e] at h6; cases h6) h7 rfl d (k (.retAddr 4) (Or.inr rfl) H locs ls w hlv)
theorem r_alenS {k : Nat} (C : cX p s m args meth c D cA B Hb own cc nL ret) (hk : k < 2) (d : decode cc pc = .ok (.arraylength, 1)) (kk : gW p l e R s m args below meth c Q D cA B Hb nL h (pc + 1) lv (.int (scL k) :: st) cells slots) : gW p l e R s m args below meth c Q D cA B Hb nL h pc lv (.retAddr (2 + k) :: st) cells slots := by
  obtain ⟨cell, h1, h2, h3, h4, h5, h6, h7⟩ := (C.2.2.2.2.2.1.2.2.2.2.1.1 k hk).2.2.2
  intro H locs ls w hlv
  have e : cv cA B (.retAddr (2 + k)) = .ref (cA (32 + k)) := by show Value.ref (cA (30 + (2 + k))) = _; rw [← Nat.add_assoc]
  rw [List.map_cons, e]
  exact W.alen (n := scL k) C.1 C.2.1 (wW_old w h7 h1) h2 h5 rfl rfl d (kk H locs ls w hlv)
theorem r_ldBS {k : Nat} {i : Int32} (C : cX p s m args meth c D cA B Hb own cc nL ret) (hk : k < 2) (h0 : ¬ i < 0) (hi : i.toNatClampNeg < stN.getD k 0) (d : decode cc pc = .ok (.baload, 1)) (kk : gW p l e R s m args below meth c Q D cA B Hb nL h (pc + 1) lv (.int ((stB.getD k []).getD i.toNatClampNeg 0) :: st) cells slots) : gW p l e R s m args below meth c Q D cA B Hb nL h pc lv (.int i :: .retAddr (2 + k) :: st) cells slots := by
  obtain ⟨cell, h1, h2, h3, h4, h5, h6, h7⟩ := (C.2.2.2.2.2.1.2.2.2.2.1.1 k hk).2.2.2
  intro H locs ls w hlv
  have e : cv cA B (.retAddr (2 + k)) = .ref (cA (32 + k)) := by show Value.ref (cA (30 + (2 + k))) = _; rw [← Nat.add_assoc]
  rw [List.map_cons, List.map_cons, e]
  refine W.bald C.1 C.2.1 (wW_old w h7 h1) h2 h3 ?_ (h6 _ hi) rfl rfl d (kk H locs ls w hlv)
  rintro (z | z)
  · exact h0 z
  · omega
theorem r_i2c {x v : Int32} (C : cX p s m args meth c D cA B Hb own cc nL ret) (d : decode cc pc = .ok (.i2c, 1)) (hv : (x.toUInt32 % 65536).toInt32 = v) (kk : gW p l e R s m args below meth c Q D cA B Hb nL h (pc + 1) lv (.int v :: st) cells slots) : gW p l e R s m args below meth c Q D cA B Hb nL h pc lv (.int x :: st) cells slots := fun H locs ls w hl => lv_i2c C.1 C.2.1 d hv (kk H locs ls w hl)
theorem r_nret {v : Int32} {mc ms : Nat} {ty : FieldType} (C : cX p s m args meth c D cA B Hb own cc nL (some ty)) (dd : decode cc pc = .ok (.ireturn, 1)) (hv : narrow ty (.int v) = .int v) : gW p l e R s m args below meth c (MQ below (eQ D cA B Hb h (some (.int v))) args s mc ms (fun q => B ≤ q)) D cA B Hb nL h pc lv [.int v] mc ms := by
  obtain ⟨hx, hb, hml, hown, hts, hK, hlocks, hr⟩ := C
  exact fun H locs ls w hl => W.zret hx hb hr hv (fun t ht hW => ⟨rfl, by rw [ht]; exact w.1, zK.warm hW hK⟩) w.2 dd hlocks
theorem r_cVS {d k : Nat} {y : MethodName} {cy : ByteArray} {maxL idx n : Nat} {ry : Option FieldType} {As rest st2 : List Value} {r : Option Value} {h' : aH} (C : cX p s m args meth c D cA B Hb own cc nL ret) (hk : k < 2) (hE : EV d y cy maxL ry h (.retAddr k :: As) r h' 0 0) (M : mK y cy maxL ry n) (hins : Cond.instanceMethod y ∈ tB) (hsel : Cond.selects RJ0 y y ∈ tB) (hlk : Cond.methodLink own idx y ∈ tB) (hst : As.reverse ++ .retAddr k :: rest = st) (hn : As.length = n) (h2 : r.toList ++ rest = st2) (dd : decode cc pc = .ok (.invokevirtual idx, 3))
    (hW : (rest.map fun v => v.category).sum ≤ 8) (hR : d + 1 ≤ R.frames ∧ 8 + (maxL + 11) + 60 * d ≤ R.locals) (hf : cells ≤ R.cells ∧ slots ≤ R.slots)
    (kk : gW p l e R s m args below meth c Q D cA B Hb nL h' (pc + 3) lv st2 cells slots) : gW p l e R s m args below meth c Q D cA B Hb nL h pc lv st cells slots := by
  subst h2
  obtain ⟨hx, hb, hml, hown, hts, hK, -, -⟩ := C
  refine gW_run (mc := 0) (ms := 0) (a := (Value.ref (cA (30 + k)) :: As.map (cv cA B)).toArray) (rest := rest) (fun H locs ls w hl => ?_) kk
  obtain ⟨cell, g1, g2, g3, g4⟩ := (hK.2.2.2.2.1.1 k hk).1
  refine va_runV (As := As.map (cv cA B)) (b := cA (30 + k)) (C := RJ0) (n := n) (ret := ry) (bytes := cy) (maxL := maxL) ⟨hx, hb, hml, hown, hts⟩ (hE l D cA B Hb) ⟨callB_of n hts (tB_good y cy maxL ry M.1) rfl rfl rfl (hts _ M.2.1) (hts _ hlk) M.2.2 hR, hts _ hins, hts _ hsel⟩ ⟨eP_blind, ⟨cell, wW_old w g4 g1, g2, g3⟩, fun U hU hWm => ⟨rfl, by rw [hU]; exact w.1, zK.warm hWm hK⟩⟩ rfl (by rw [List.length_map]; exact hn) hl.1 (by rw [← hst]; simp [cv]) ?_ dd hf
  show 0 + _ ≤ 8
  rw [List.map_map, show ((fun v : Value => v.category) ∘ cv cA B) = (fun v => v.category) from funext (cv_cat cA B)]
  omega
end RS
theorem mk_J3_checkIndex_8e157 : mK yJ3_checkIndex_8e157 cJ3_checkIndex_8e157 3 (some .int) 3 := ⟨in_tB 211 (by decide +kernel) (by decide +kernel), in_tB 151 (by decide +kernel) (by decide +kernel), by decide +kernel, by decide +kernel, by decide +kernel⟩
theorem sm_J3_checkIndex_8e157 : Cond.static yJ3_checkIndex_8e157 ∈ tB := in_tB 210 (by decide +kernel) (by decide +kernel)
theorem lk_J0_1059' : Cond.methodLink RJ0 1059 yJ3_checkIndex_8e157 ∈ tB := in_tB 209 (by decide +kernel) (by decide +kernel)
theorem s_coder {h : aH} {k : Nat} (hk : k < 2) : EV 0 yJ0_coder_7d493 cJ0_coder_7d493 1 (some .byte) h [.retAddr k] (some (.int 0)) h 0 0 := by
  refine EV.of (own := RJ0) (lv0 := [(0, .retAddr k)]) (by decide +kernel) rfl rfl (Nat.le_of_ble_eq_true rfl) ?_
  intro p l e s m args below meth c D cA B Hb C hin
  refine r_cmp C dJ0_coder_7d493_0 ?_
  refine r_ifeq (tgt := 13) C dJ0_coder_7d493_3 (by decide) (fun q => absurd q (by decide)) (fun _ => ?_)
  refine r_sload_n C dJ0_coder_7d493_6 rfl ?_
  refine r_getS (v := .int 0) C fkS_c (C.2.2.2.2.2.1.2.2.2.2.1.1 k hk).2.1 dJ0_coder_7d493_7 ?_
  refine r_goto (tgt := 14) C dJ0_coder_7d493_10 (by decide) ?_
  exact r_nret C dJ0_coder_7d493_14 rfl
theorem s_latin {h : aH} {k : Nat} (hk : k < 2) : EV 0 yJ0_isLatin1_aae02 cJ0_isLatin1_aae02 1 (some .boolean) h [.retAddr k] (some (.int 1)) h 0 0 := by
  refine EV.of (own := RJ0) (lv0 := [(0, .retAddr k)]) (by decide +kernel) rfl rfl (Nat.le_of_ble_eq_true rfl) ?_
  intro p l e s m args below meth c D cA B Hb C hin
  refine r_cmp C dJ0_isLatin1_aae02_0 ?_
  refine r_ifeq (tgt := 17) C dJ0_isLatin1_aae02_3 (by decide) (fun q => absurd q (by decide)) (fun _ => ?_)
  refine r_sload_n C dJ0_isLatin1_aae02_6 rfl ?_
  refine r_getS (v := .int 0) C fkS_c (C.2.2.2.2.2.1.2.2.2.2.1.1 k hk).2.1 dJ0_isLatin1_aae02_7 ?_
  refine r_ifne (tgt := 17) C dJ0_isLatin1_aae02_10 (by decide) (fun q => absurd rfl q) (fun _ => ?_)
  refine r_iconst (v := 1) C dJ0_isLatin1_aae02_13 (by decide) ?_
  refine r_goto (tgt := 18) C dJ0_isLatin1_aae02_14 (by decide) ?_
  exact r_zret C dJ0_isLatin1_aae02_18 (Or.inr rfl)
theorem scL_shr : ∀ k, k < 2 → scL k >>> ((0 : Int32) &&& 31) = scL k := by decide +kernel
theorem s_length {h : aH} {k : Nat} (hk : k < 2) : EV 1 yJ0_length_8abf5 cJ0_length_8abf5 1 (some .int) h [.retAddr k] (some (.int (scL k))) h 0 0 := by
  refine EV.of (own := RJ0) (lv0 := [(0, .retAddr k)]) (by decide +kernel) rfl rfl (Nat.le_of_ble_eq_true rfl) ?_
  intro p l e s m args below meth c D cA B Hb C hin
  refine r_sload_n C dJ0_length_8abf5_0 rfl ?_
  refine r_getS (v := .retAddr (2 + k)) C fkS_v (by
    have e : cv cA B (.retAddr (2 + k)) = .ref (cA (32 + k)) := by show Value.ref (cA (30 + (2 + k))) = _; rw [← Nat.add_assoc]
    rw [e]
    exact (C.2.2.2.2.2.1.2.2.2.2.1.1 k hk).2.2.1) dJ0_length_8abf5_1 ?_
  refine r_alenS C hk dJ0_length_8abf5_4 ?_
  refine r_sload_n C dJ0_length_8abf5_5 rfl ?_
  refine r_cVS (rest := [.int (scL k)]) (st2 := [.int 0, .int (scL k)]) C hk (s_coder hk) mk_J0_coder_7d493 im_J0_coder_7d493 sl_J0_coder_7d493 lk_J0_335 rfl rfl rfl dJ0_length_8abf5_6 (Nat.le_of_ble_eq_true rfl) ⟨Nat.le_of_ble_eq_true rfl, Nat.le_of_ble_eq_true rfl⟩ ⟨Nat.le_of_ble_eq_true rfl, Nat.le_of_ble_eq_true rfl⟩ ?_
  refine r_ishr C dJ0_length_8abf5_9 ?_
  rw [scL_shr k hk]
  exact r_iret C dJ0_length_8abf5_10
theorem s_pre {h : aH} {i n : Int32} {v : Value} (hv : v = .null ∨ v = .retAddr 4) (h0 : ¬ i < 0) (h1 : i < n) : EV 0 yJ3_checkIndex_8e157 cJ3_checkIndex_8e157 3 (some .int) h [.int i, .int n, v] (some (.int i)) h 0 0 := by
  refine EV.of (own := RJ3) (lv0 := [(0, .int i), (1, .int n), (2, v)]) (by decide +kernel) rfl rfl (by rcases hv with rfl | rfl <;> exact (Nat.le_of_ble_eq_true rfl)) ?_
  intro p l e s m args below meth c D cA B Hb C hin
  refine r_iload_n C dJ3_checkIndex_8e157_0 rfl ?_
  refine r_iflt (tgt := 9) C dJ3_checkIndex_8e157_1 (by decide) (fun q => absurd q h0) (fun _ => ?_)
  refine r_iload_n C dJ3_checkIndex_8e157_4 rfl ?_
  refine r_iload_n C dJ3_checkIndex_8e157_5 rfl ?_
  refine r_icmp_lt (tgt := 16) C dJ3_checkIndex_8e157_6 (by decide) (fun _ => ?_) (fun q => absurd h1 q)
  refine r_iload_n C dJ3_checkIndex_8e157_16 rfl ?_
  exact r_iret C dJ3_checkIndex_8e157_17
theorem s_chk {h : aH} {i n : Int32} (h0 : ¬ i < 0) (h1 : i < n) : EV 1 yJ0_checkIndex_df160 cJ0_checkIndex_df160 2 none h [.int i, .int n] none h 0 0 := by
  refine EV.of (own := RJ0) (lv0 := [(0, .int i), (1, .int n)]) (by decide +kernel) rfl rfl (Nat.le_of_ble_eq_true rfl) ?_
  intro p l e s m args below meth c D cA B Hb C hin
  refine r_iload_n C dJ0_checkIndex_df160_0 rfl ?_
  refine r_iload_n C dJ0_checkIndex_df160_1 rfl ?_
  refine r_fmt C dJ0_checkIndex_df160_2 (fun v hv => ?_)
  refine r_cS (rest := []) (st2 := [.int i]) C (s_pre hv h0 h1) mk_J3_checkIndex_8e157 sm_J3_checkIndex_8e157 lk_J0_1059' rfl rfl rfl dJ0_checkIndex_df160_5 (Nat.le_of_ble_eq_true rfl) ⟨Nat.le_of_ble_eq_true rfl, Nat.le_of_ble_eq_true rfl⟩ ⟨Nat.le_of_ble_eq_true rfl, Nat.le_of_ble_eq_true rfl⟩ ?_
  refine r_pop C dJ0_checkIndex_df160_8 rfl ?_
  exact r_vret C dJ0_checkIndex_df160_9
theorem s_chr1 {h : aH} {k : Nat} {i : Int32} (hk : k < 2) (h0 : ¬ i < 0) (hi : i.toNatClampNeg < stN.getD k 0) : EV 2 yJ1_charAt_3b067 cJ1_charAt_3b067 2 (some .char) h [.retAddr (2 + k), .int i] (some (.int ((stB.getD k []).getD i.toNatClampNeg 0 &&& 255))) h 0 0 := by
  refine EV.of (own := RJ1) (lv0 := [(0, .retAddr (2 + k)), (1, .int i)]) (by decide +kernel) rfl rfl (Nat.le_of_ble_eq_true rfl) ?_
  intro p l e s m args below meth c D cA B Hb C hin
  have hlt : i < scL k := by
    have hn : stN.getD k 0 < 2 ^ 31 := by rcases (show k = 0 ∨ k = 1 by omega) with rfl | rfl <;> decide
    have e : i.toInt = (i.toNatClampNeg : Int) := clampI i h0
    rw [Int32.lt_iff_toInt_lt, e]
    show _ < (nI (stN.getD k 0)).toInt
    rw [nI_toInt hn]
    omega
  refine r_iload_n C dJ1_charAt_3b067_0 rfl ?_
  refine r_sload_n C dJ1_charAt_3b067_1 rfl ?_
  refine r_alenS C hk dJ1_charAt_3b067_2 ?_
  refine r_cS (rest := []) (st2 := []) C (s_chk h0 hlt) mk_J0_checkIndex_df160 sm_J0_checkIndex_df160 lk_J1_9 rfl rfl rfl dJ1_charAt_3b067_3 (Nat.le_of_ble_eq_true rfl) ⟨Nat.le_of_ble_eq_true rfl, Nat.le_of_ble_eq_true rfl⟩ ⟨Nat.le_of_ble_eq_true rfl, Nat.le_of_ble_eq_true rfl⟩ ?_
  refine r_sload_n C dJ1_charAt_3b067_6 rfl ?_
  refine r_iload_n C dJ1_charAt_3b067_7 rfl ?_
  refine r_ldBS C hk h0 hi dJ1_charAt_3b067_8 ?_
  refine r_sipush (v := 255) C dJ1_charAt_3b067_9 (by decide) ?_
  refine r_iand C dJ1_charAt_3b067_12 ?_
  refine r_i2c C dJ1_charAt_3b067_13 (sc_c2 _) ?_
  exact r_nret C dJ1_charAt_3b067_14 (sc_nar _)
theorem s_charAt {h : aH} {k : Nat} {i r : Int32} (hg : scC k i = some r) : EV 3 yJ0_charAt_5068e cJ0_charAt_5068e 2 (some .char) h [.retAddr k, .int i] (some (.int r)) h 0 0 := by
  unfold scC at hg
  split at hg
  · rename_i q
    obtain ⟨hk, h0, hi⟩ := q
    cases hg
    refine EV.of (own := RJ0) (lv0 := [(0, .retAddr k), (1, .int i)]) (by decide +kernel) rfl rfl (Nat.le_of_ble_eq_true rfl) ?_
    intro p l e s m args below meth c D cA B Hb C hin
    refine r_sload_n C dJ0_charAt_5068e_0 rfl ?_
    refine r_cVS (rest := []) (st2 := [.int 1]) C hk (s_latin hk) mk_J0_isLatin1_aae02 im_J0_isLatin1_aae02 sl_J0_isLatin1_aae02 lk_J0_492 rfl rfl rfl dJ0_charAt_5068e_1 (Nat.le_of_ble_eq_true rfl) ⟨Nat.le_of_ble_eq_true rfl, Nat.le_of_ble_eq_true rfl⟩ ⟨Nat.le_of_ble_eq_true rfl, Nat.le_of_ble_eq_true rfl⟩ ?_
    refine r_ifeq (tgt := 16) C dJ0_charAt_5068e_4 (by decide) (fun q => absurd q (by decide)) (fun _ => ?_)
    refine r_sload_n C dJ0_charAt_5068e_7 rfl ?_
    refine r_getS (v := .retAddr (2 + k)) C fkS_v (by
      have e : cv cA B (.retAddr (2 + k)) = .ref (cA (32 + k)) := by show Value.ref (cA (30 + (2 + k))) = _; rw [← Nat.add_assoc]
      rw [e]
      exact (C.2.2.2.2.2.1.2.2.2.2.1.1 k hk).2.2.1) dJ0_charAt_5068e_8 ?_
    refine r_iload_n C dJ0_charAt_5068e_11 rfl ?_
    refine r_cS (rest := []) (st2 := [.int ((stB.getD k []).getD i.toNatClampNeg 0 &&& 255)]) C (s_chr1 hk h0 hi) mk_J1_charAt_3b067 sm_J1_charAt_3b067 lk_J0_495 rfl rfl rfl dJ0_charAt_5068e_12 (Nat.le_of_ble_eq_true rfl) ⟨Nat.le_of_ble_eq_true rfl, Nat.le_of_ble_eq_true rfl⟩ ⟨Nat.le_of_ble_eq_true rfl, Nat.le_of_ble_eq_true rfl⟩ ?_
    exact r_nret C dJ0_charAt_5068e_15 (sc_nar _)
  · cases hg
theorem r_slen {p : Program} {l : Launch} {e : Env} {R : Room} {s : State} {m : MethodId} {args : Array Value} {below : List Frame} {meth : Method} {c : Code} {Q : State → Prop} {D : va_G} {cA : Nat → ClassId} {B : Nat} {Hb : Heap} {nL : Nat} {h : aH} {pc : Nat} {lv : List (Nat × Value)} {st : List Value} {cells slots : Nat} {own : String} {cc : ByteArray} {ret : Option FieldType} {idx k : Nat} {y : Int32} (C : cX p s m args meth c D cA B Hb own cc nL ret) (hlk : Cond.methodLink own idx yJ0_length_8abf5 ∈ tB) (dd : decode cc pc = .ok (.invokevirtual idx, 3)) (hW : (st.map fun v => v.category).sum ≤ 8) (hR : 8 ≤ R.frames ∧ 480 ≤ R.locals) (hf : cells ≤ R.cells ∧ slots ≤ R.slots) (hg : scN k = some y) (kk : gW p l e R s m args below meth c Q D cA B Hb nL h (pc + 3) lv (.int y :: st) cells slots) : gW p l e R s m args below meth c Q D cA B Hb nL h pc lv (.retAddr k :: st) cells slots := by
  unfold scN at hg
  split at hg
  · rename_i q
    cases hg
    exact r_cVS (As := []) (rest := st) C q (s_length q) mk_J0_length_8abf5 im_J0_length_8abf5 sl_J0_length_8abf5 hlk rfl rfl rfl dd hW ⟨by omega, by omega⟩ hf kk
  · cases hg
theorem r_schr {p : Program} {l : Launch} {e : Env} {R : Room} {s : State} {m : MethodId} {args : Array Value} {below : List Frame} {meth : Method} {c : Code} {Q : State → Prop} {D : va_G} {cA : Nat → ClassId} {B : Nat} {Hb : Heap} {nL : Nat} {h : aH} {pc : Nat} {lv : List (Nat × Value)} {st : List Value} {cells slots : Nat} {own : String} {cc : ByteArray} {ret : Option FieldType} {idx k : Nat} {i y : Int32} (C : cX p s m args meth c D cA B Hb own cc nL ret) (hlk : Cond.methodLink own idx yJ0_charAt_5068e ∈ tB) (dd : decode cc pc = .ok (.invokevirtual idx, 3)) (hW : (st.map fun v => v.category).sum ≤ 8) (hR : 8 ≤ R.frames ∧ 480 ≤ R.locals) (hf : cells ≤ R.cells ∧ slots ≤ R.slots) (hg : scC k i = some y) (kk : gW p l e R s m args below meth c Q D cA B Hb nL h (pc + 3) lv (.int y :: st) cells slots) : gW p l e R s m args below meth c Q D cA B Hb nL h pc lv (.int i :: .retAddr k :: st) cells slots := by
  have hk : k < 2 := by
    have h2 := hg
    unfold scC at h2
    split at h2
    · rename_i q; exact q.1
    · cases h2
  exact r_cVS (As := [.int i]) (rest := st) C hk (s_charAt hg) mk_J0_charAt_5068e im_J0_charAt_5068e sl_J0_charAt_5068e hlk rfl rfl rfl dd hW ⟨by omega, by omega⟩ hf kk
