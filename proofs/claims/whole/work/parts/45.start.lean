theorem nest_in : ∀ w ∈ nestL, w ∈ lw_tbl := me_in _ [294, 337, 481, 534, 694, 696, 1296] (by decide +kernel)
/-! ===== from the claim's start to the walk ===== -/
def stT (i : Nat) : Term := if i = 0 then .string RX4 58 else .string RX12 206
theorem fl_ex : ∀ i, i < 2 → Cond.exactly (stT i) "java/lang/String" ∈ flatC (Jvm.Cond.and given_1 narrow_1) := by decide +kernel
theorem fl_co : ∀ i, i < 2 → Cond.eq (.field (stT i) "java/lang/String" "coder" "B") (.int 0) ∈ flatC (Jvm.Cond.and given_1 narrow_1) := by decide +kernel
theorem fl_ar : ∀ i, i < 2 → Cond.arrayOf (.field (stT i) "java/lang/String" "value" "[B") .byte ∈ flatC (Jvm.Cond.and given_1 narrow_1) := by decide +kernel
theorem fl_le : ∀ i, i < 2 → Cond.eq (.length (.field (stT i) "java/lang/String" "value" "[B")) (.int (Int32.ofNat (stN.getD i 0))) ∈ flatC (Jvm.Cond.and given_1 narrow_1) := by decide +kernel
def elC (i j : Nat) : Cond := Cond.eq (.elem (.field (stT i) "java/lang/String" "value" "[B") (.int (Int32.ofNat j))) (.int ((stB.getD i []).getD j 0))
theorem fl_e0 : ((flatC (Jvm.Cond.and given_1 narrow_1)).drop 39).take 139 = (List.range 139).map (elC 0) := by decide +kernel
theorem fl_e1 : ((flatC (Jvm.Cond.and given_1 narrow_1)).drop 182).take 140 = (List.range 140).map (elC 1) := by decide +kernel
theorem fl_el : ∀ i, i < 2 → ∀ j, j < stN.getD i 0 → elC i j ∈ flatC (Jvm.Cond.and given_1 narrow_1) := by
  intro i hi j hj
  rcases (show i = 0 ∨ i = 1 by omega) with rfl | rfl
  · have h : elC 0 j ∈ (List.range 139).map (elC 0) := List.mem_map.mpr ⟨j, List.mem_range.mpr hj, rfl⟩
    rw [← fl_e0] at h
    exact List.mem_of_mem_drop (List.mem_of_mem_take h)
  · have h : elC 1 j ∈ (List.range 140).map (elC 1) := List.mem_map.mpr ⟨j, List.mem_range.mpr hj, rfl⟩
    rw [← fl_e1] at h
    exact List.mem_of_mem_drop (List.mem_of_mem_take h)
theorem fl_ne : Cond.not (Cond.eq (stT 0) (stT 1)) ∈ flatC (Jvm.Cond.and given_1 narrow_1) := by decide +kernel
theorem fl_cs : Cond.eq (.static "java/lang/String" "COMPACT_STRINGS" "Z") (.int 1) ∈ flatC (Jvm.Cond.and given_1 narrow_1) := by decide +kernel
theorem fl_fm : Cond.isRef (.static "jdk/internal/util/Preconditions" "SIOOBE_FORMATTER" "Ljava/util/function/BiFunction;") ∈ flatC (Jvm.Cond.and given_1 narrow_1) := by decide +kernel
theorem arr_of {args : Array Value} {s : State} {ty : FieldType} (hp : ∀ C, ty ≠ .object C) (h : (Cond.arrayClass ty).before args s = true) : ∃ cA : ClassId, ArrOfT s cA ty ∧ va_RA s cA ty := by
  obtain ⟨cB, kB, comp, h1, h2, h3⟩ := Cond.arrayClass_spec h
  refine ⟨cB, fun n z => ⟨fun k h => (by cases h), kB, h2, comp, h3⟩, ?_⟩
  cases ty with
  | object C => exact absurd rfl (hp C)
  | _ => exact h1
theorem arr_ob {args : Array Value} {s : State} {C : String} (h : (Cond.arrayOver (.object C)).before args s = true) : ∃ cA : ClassId, ArrOfT s cA (.object C) ∧ va_RA s cA (.object C) := by
  obtain ⟨comp, c, k, h1, -, h2, h3, h4⟩ := Cond.arrayOver_spec h
  exact ⟨c, fun n z => ⟨fun k h => (by cases h), k, h2, comp, h3⟩, k, comp, h2, h3, h1, h4⟩
def h00 : aH := ([], fun _ _ => 0, fun _ _ => 0, fun _ _ => none)
set_option maxHeartbeats 4000000 in
theorem start_of (hpure : ∀ (xs : Nat → Int32) (L : Nat), L ≤ 3072 → ∃ h' : aH, f_L_law xs L h00 = some (1, h')) {p : Program} {e : Env} {s : State} {m : MethodId} {below : List Frame} {meth : Method} {c : Code} (l : Launch) {b L : Nat} {xs : Nat → Int32} (hL : L ≤ 3072) (C0 : lw_At p s m meth c b L xs) : W p l e room_1 s m #[Value.ref b] below meth c s.heap [] 0 0 (lw_Z below #[Value.ref b] s) (entryFrame m ([Value.ref b] : List Value).toArray 4) := by
  obtain ⟨hx, hb, hr, hml, hown, hts, hX, hbl, hlocks, hgv⟩ := id C0
  have hs := flat_of_before _ hgv
  have hA : ∀ a : Nat, a < s.heap.size → ¬ (fun q : Nat => s.heap.size ≤ q) a := fun a h => Nat.not_le.mpr h
  obtain ⟨k0, j0, q0⟩ := u_known (C := RX0) (T := TX0) (N := 5) (n := 5) hts inX0 (hts (.instantiable RX0 5) (List.mem_of_getElem? (i := 480) (by decide +kernel)))
  obtain ⟨k1, j1, q1⟩ := u_known (C := RX1) (T := TX1) (N := 19) (n := 19) hts inX1 (hts (.instantiable RX1 19) (List.mem_of_getElem? (i := 330) (by decide +kernel)))
  obtain ⟨k2, j2, q2⟩ := u_known (C := RX2) (T := TX2) (N := 8) (n := 8) hts inX2 (hts (.instantiable RX2 8) (List.mem_of_getElem? (i := 474) (by decide +kernel)))
  obtain ⟨k3, j3, q3⟩ := u_known (C := RX3) (T := TX3) (N := 7) (n := 7) hts inX3 (hts (.instantiable RX3 7) (List.mem_of_getElem? (i := 527) (by decide +kernel)))
  obtain ⟨k4, j4, q4⟩ := u_known (C := RX4) (T := TX4) (N := 14) (n := 14) hts inX4 (hts (.instantiable RX4 14) (List.mem_of_getElem? (i := 177) (by decide +kernel)))
  obtain ⟨k5, j5, q5⟩ := u_known (C := RX5) (T := TX5) (N := 3) (n := 3) hts inX5 (hts (.instantiable RX5 3) (List.mem_of_getElem? (i := 688) (by decide +kernel)))
  obtain ⟨k6, j6, q6⟩ := u_known (C := RX6) (T := TX6) (N := 6) (n := 6) hts inX6 (hts (.instantiable RX6 6) (List.mem_of_getElem? (i := 533) (by decide +kernel)))
  obtain ⟨k7, j7, q7⟩ := u_known (C := RX7) (T := TX7) (N := 4) (n := 4) hts inX7 (hts (.instantiable RX7 4) (List.mem_of_getElem? (i := 336) (by decide +kernel)))
  obtain ⟨k8, j8, q8⟩ := u_known (C := RX8) (T := TX8) (N := 8) (n := 8) hts inX8 (hts (.instantiable RX8 8) (List.mem_of_getElem? (i := 293) (by decide +kernel)))
  obtain ⟨k9, j9, q9⟩ := u_known (C := RX9) (T := TX9) (N := 9) (n := 9) hts inX9 (hts (.instantiable RX9 9) (List.mem_of_getElem? (i := 632) (by decide +kernel)))
  obtain ⟨k10, j10, q10⟩ := u_known (C := RX10) (T := TX10) (N := 4) (n := 4) hts inX10 (hts (.instantiable RX10 4) (List.mem_of_getElem? (i := 666) (by decide +kernel)))
  obtain ⟨k11, j11, q11⟩ := u_known (C := RX11) (T := TX11) (N := 20) (n := 20) hts inX11 (hts (.instantiable RX11 20) (List.mem_of_getElem? (i := 169) (by decide +kernel)))
  obtain ⟨k12, j12, q12⟩ := u_known (C := RX12) (T := TX12) (N := 48) (n := 48) hts inX12 (hts (.instantiable RX12 48) (List.mem_of_getElem? (i := 1443) (by decide +kernel)))
  obtain ⟨a20, r20⟩ := arr_of (ty := .int) (fun C h => by cases h) (hts _ (List.mem_of_getElem? (i := 285) (by decide +kernel)))
  obtain ⟨a21, r21⟩ := arr_of (ty := .long) (fun C h => by cases h) (hts _ (List.mem_of_getElem? (i := 286) (by decide +kernel)))
  obtain ⟨a22, r22⟩ := arr_of (ty := .byte) (fun C h => by cases h) (hts _ (List.mem_of_getElem? (i := 287) (by decide +kernel)))
  obtain ⟨a23, r23⟩ := arr_of (ty := .boolean) (fun C h => by cases h) (hts _ (List.mem_of_getElem? (i := 1646) (by decide +kernel)))
  have ov24 : (Cond.arrayOver (.object RX1)).before #[Value.ref b] s = true := hts _ (List.mem_of_getElem? (i := 289) (by decide +kernel))
  obtain ⟨a24, r24⟩ := arr_ob ov24
  have ov25 : (Cond.arrayOver (.object RX5)).before #[Value.ref b] s = true := hts _ (List.mem_of_getElem? (i := 291) (by decide +kernel))
  obtain ⟨a25, r25⟩ := arr_ob ov25
  obtain ⟨adK, adV, hS, hE⟩ := vk_Sof (args := #[Value.ref b]) (s := s) (N := 2) (tm := stT) (len := stN) (byt := stB) (A := fun q : Nat => s.heap.size ≤ q) (by decide) (fun i hi => hs _ (fl_ex i hi)) (fun i hi => hs _ (fl_co i hi)) (fun i hi => hs _ (fl_ar i hi)) (fun i hi => hs _ (fl_le i hi)) (fun i hi j hj => hs _ (fl_el i hi j hj))
    (fun i j hi hj hij => by
      rcases (show (i = 0 ∧ j = 1) ∨ (i = 1 ∧ j = 0) by omega) with ⟨rfl, rfl⟩ | ⟨rfl, rfl⟩
      · exact Or.inl (hs _ fl_ne)
      · exact Or.inr (hs _ fl_ne)) hA
  have hcs := va_Zof (A := fun q : Nat => s.heap.size ≤ q) (hts (.laysStatic "java/lang/String" "COMPACT_STRINGS" "Z") (List.mem_of_getElem? (i := 192) (by decide +kernel))) (hts (.initialized "java/lang/String") (List.mem_of_getElem? (i := 149) (by decide +kernel))) (va_eqt (hs _ fl_cs)) hA
  have hfm := va_Zqof (A := fun q : Nat => s.heap.size ≤ q) (hts (.laysStatic "jdk/internal/util/Preconditions" "SIOOBE_FORMATTER" "Ljava/util/function/BiFunction;") (List.mem_of_getElem? (i := 208) (by decide +kernel))) (hts (.initialized "jdk/internal/util/Preconditions") (List.mem_of_getElem? (i := 151) (by decide +kernel))) (hs _ fl_fm) hA
  obtain ⟨fm, hfm⟩ : ∃ fm : Nat, va_Z "jdk/internal/util/Preconditions" "SIOOBE_FORMATTER" "Ljava/util/function/BiFunction;" .null (fun q : Nat => s.heap.size ≤ q) s s.heap ∨ va_Z "jdk/internal/util/Preconditions" "SIOOBE_FORMATTER" "Ljava/util/function/BiFunction;" (.ref fm) (fun q : Nat => s.heap.size ≤ q) s s.heap := by
    rcases hfm with h | ⟨t, h⟩
    · exact ⟨0, Or.inl h⟩
    · exact ⟨t, Or.inr h⟩
  obtain ⟨cA, hcA⟩ : ∃ cA : Nat → ClassId, cA 20 = a20 ∧ cA 21 = a21 ∧ cA 22 = a22 ∧ cA 23 = a23 ∧ cA 24 = a24 ∧ cA 25 = a25 ∧ cA 30 = adK 0 ∧ cA 31 = adK 1 ∧ cA 32 = adV 0 ∧ cA 33 = adV 1 ∧ cA 34 = fm ∧ cA 35 = b :=
    ⟨fun i => ([a20, a21, a22, a23, a24, a25, 0, 0, 0, 0, adK 0, adK 1, adV 0, adV 1, fm, b] : List Nat).getD (i - 20) 0, rfl, rfl, rfl, rfl, rfl, rfl, rfl, rfl, rfl, rfl, rfl, rfl⟩
  obtain ⟨rfl, rfl, rfl, rfl, rfl, rfl, e30, e31, e32, e33, rfl, e35⟩ := hcA
  obtain ⟨D, hD⟩ : ∃ D : va_G, ∀ (k : Nat) (q : vw_C), vwCl[k]? = some q → u_Kn s q.1 q.2.1 q.2.2 (D.1 k) (D.2 k) := by
    refine ⟨(fun k => ([k0, k1, k2, k3, k4, k5, k6, k7, k8, k9, k10, k11, k12] : List Nat).getD k 0, fun k => ([j0, j1, j2, j3, j4, j5, j6, j7, j8, j9, j10, j11, j12] : List (Nat → Nat)).getD k (fun _ => 0)), ?_⟩
    intro k q hq
    match k, hq with
    | 0, hq => cases hq; exact q0
    | 1, hq => cases hq; exact q1
    | 2, hq => cases hq; exact q2
    | 3, hq => cases hq; exact q3
    | 4, hq => cases hq; exact q4
    | 5, hq => cases hq; exact q5
    | 6, hq => cases hq; exact q6
    | 7, hq => cases hq; exact q7
    | 8, hq => cases hq; exact q8
    | 9, hq => cases hq; exact q9
    | 10, hq => cases hq; exact q10
    | 11, hq => cases hq; exact q11
    | 12, hq => cases hq; exact q12
    | k + 13, hq => simp [vwCl] at hq
  have hKK : va_K D vwCl (tyA cA) s := by
    refine ⟨hD, fun k q hq => ?_⟩
    match k, hq with
    | 0, hq => cases hq; exact r20
    | 1, hq => cases hq; exact r21
    | 2, hq => cases hq; exact r22
    | 3, hq => cases hq; exact r23
    | 4, hq => cases hq; exact r24
    | 5, hq => cases hq; exact r25
    | k + 6, hq => simp [tyA] at hq
  have hN : ∀ w ∈ nestL, va_Nw w s := by
    intro w hw
    have hm : w ∈ lw_tbl := nest_in w hw
    exact va_Nw.of (nest_tab w hw) (hts w hm)
  have hSS : vk_S 2 stN stB (fun i => cA (30 + i)) (fun i => cA (32 + i)) (fun q => s.heap.size ≤ q) s s.heap := by
    have f1 : ∀ i, i < 2 → adK i = cA (30 + i) := fun i hi => by
      rcases (show i = 0 ∨ i = 1 by omega) with rfl | rfl
      · exact e30.symm
      · exact e31.symm
    have f2 : ∀ i, i < 2 → adV i = cA (32 + i) := fun i hi => by
      rcases (show i = 0 ∨ i = 1 by omega) with rfl | rfl
      · exact e32.symm
      · exact e33.symm
    refine ⟨fun i hi => ?_, fun i j hi hj e => ?_⟩
    · have := hS.1 i hi
      rw [f1 i hi, f2 i hi] at this
      exact this
    · exact hS.2 i j hi hj (by rw [f1 i hi, f1 j hj]; exact e)
  have hR0 : vk_R RX4 58 "fact has never question fee asks witness knows may hides or and not honest turns other silent ask best next rule when sure yes no left end " (cA 30) s := vk_R.of (hts (.stringRef RX4 58 "fact has never question fee asks witness knows may hides or and not honest turns other silent ask best next rule when sure yes no left end ") (List.mem_of_getElem? (i := 182) (by decide +kernel))) (by rw [e30]; exact hE 0 (by decide))
  have hR1 : vk_R RX12 206 " fact never question witness has fee asks knows may hides or and not honest turns other silent ask best next rule when sure yes no left end " (cA 31) s := vk_R.of (hts (.stringRef RX12 206 " fact never question witness has fee asks knows may hides or and not honest turns other silent ask best next rule when sure yes no left end ") (List.mem_of_getElem? (i := 1733) (by decide +kernel))) (by rw [e31]; exact hE 1 (by decide))
  have hz : zK D cA s.heap.size s.heap s := ⟨hKK, hN, va_AO.of ov24, va_AO.of ov25, hSS, hR0, hR1, hcs, hfm⟩
  have hC : cX p s m #[Value.ref b] meth c D cA s.heap.size s.heap RL code 4 (some .boolean) := ⟨hx, hb, hml, hown, fun w hw => hts w (List.mem_filter.mp hw).1, hz, hlocks, hr⟩
  obtain ⟨h', hf⟩ := hpure xs L hL
  have hw : wW D cA s.heap.size s.heap h00 s.heap [] := ⟨⟨rfl, fun i hi => absurd hi (Nat.not_lt_zero i), fun _ _ => rfl⟩, fun q hq => by cases hq⟩
  have hl := lv_entry ([.ref b]) (n := 4) (Nat.le_of_ble_eq_true rfl)
  rw [lg_entry_eq]
  refine s_L_law (out := (1, h')) hL hC (by rw [e35]; exact hX) (by rw [e35]; exact hbl) rfl hf s.heap [] _ hw ?_
  show lv_has _ 4 [(0, .ref (cA 35))]
  rw [e35]
  exact hl
