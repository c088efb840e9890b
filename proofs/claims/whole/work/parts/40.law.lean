def R_law : String := "AskingCourtLaw"
def lw_P (b : Addr) (xs : List Int32) (args : Array Value) (s : State) : Prop := args = #[.ref b] ∧ s.IntsAt b xs ∧ xs.length ≤ 3072 ∧ (Jvm.Cond.and given_1 narrow_1).before args s = true
def lw_Q (_ : Array Value) (s : State) (o : Outcome) (t : State) : Prop := o = .returned (some (.int 1)) ∧ Framed s o t [] 225136 8426842
def lw_Z (below : List Frame) (a : Array Value) (s : State) : State → Prop := fun t => ∃ o, t.status = .running ∧ Ended t below o ∧ lw_Q a s o t
/-- the law's own end, with 1 on the stack, nothing written that was there before, its room as the claim has it -/
theorem lw_ret {p : Program} {l : Launch} {e : Env} {s : State} {m : MethodId} {below : List Frame} {meth : Method} {c : Code} {b : Nat} (hx : p.tables.exec = Jvm.exec) (hb : c.code = code) (hr : meth.sig.returnType = ret) (hlocks : meth.locks = false) {pc : Nat} {H : Heap} {ls : Array Slot} (hdg : decode code pc = .ok (.ireturn, 1)) : W p l e room_1 s m #[Value.ref b] below meth c H [] 225136 8426842 (lw_Z below #[Value.ref b] s) (F0 m pc ls [.int 1]) := by
  intro T hT X
  obtain ⟨fs, hret, hrun, hended, hW, hframe⟩ := X.leave (v := some (.int 1)) (hlocks := hlocks) (fun h => by rw [hr] at h; cases h)
  have hmeth' : T.vm.method? m = some meth := X.method'
  refine ⟨T.setFrames fs, ?_, .returned (some (.int 1)), hrun, hended, rfl, ⟨_, rfl⟩, hW, hframe⟩
  jvm_step X.here [X.here.top, hx, hb, hdg, hmeth', hr, ret, narrow_b1]
  (try refine ⟨rfl, ?_⟩); (try refine ⟨rfl, ?_⟩)
  first | (intro acts; rw [hret _ acts rfl rfl rfl]) | rw [hret _ _ rfl rfl rfl]
  exact Steps.refl _
/-- what holds at the law's entry: the machine, the code, the tables' words (any of lw_tbl by 'hts w (by decide +kernel)'), the script of L ints xs at the cell b, what the Statement gives of the start (any of its parts by flat_of_before) -/
def lw_At (p : Program) (s : State) (m : MethodId) (meth : Method) (c : Code) (b L : Nat) (xs : Nat → Int32) : Prop :=
  p.tables.exec = Jvm.exec ∧ c.code = code ∧ meth.sig.returnType = ret ∧ c.maxLocals = 4 ∧ s.vm.findClass R_law = some m.cls ∧ (∀ w ∈ lw_tbl, w.before #[Value.ref b] s = true) ∧ va_X b L xs s s.heap ∧ b < s.heap.size ∧ meth.locks = false ∧ (Jvm.Cond.and given_1 narrow_1).before #[Value.ref b] s = true
/-! ===== the law's own steps ===== -/
def xld (xs : Nat → Int32) (L : Nat) (i : Int32) : Option Int32 := if ¬ i < 0 ∧ i.toNatClampNeg < L then some (xs i.toNatClampNeg) else none
def bdL (v : Int32) (cz sz : Nat) : Prop := ∃ j : Nat, v = nI j ∧ j ≤ 3078 ∧ cz * 6 ≤ 1212 + 16 * j ∧ sz * 6 ≤ 600000 + 13048 * j
theorem bd_0 {c n : Nat} (h1 : c * 6 ≤ 1212) (h2 : n * 6 ≤ 600000) : bdL 0 c n := ⟨0, nI_0.symm, by omega, by omega, by omega⟩
theorem bd_j {L j : Nat} (hL : L ≤ 3072) (hj : j ≤ 3078) (cH : ¬ (Int32.ofNat L - 6 < nI j)) : j + 6 ≤ L := by
  have e2 : (nI L - nI 6).toInt = (L : Int) - 6 := pk_sub_toInt (by omega) (by decide)
  have e1 : (Int32.ofNat L - 6).toInt = (L : Int) - 6 := e2
  rw [Int32.lt_iff_toInt_lt, e1, nI_toInt (by omega)] at cH
  omega
theorem bd_same {v t : Int32} {cz sz L : Nat} (hb : bdL v cz sz) (cH : ¬ (Int32.ofNat L - 6 < v)) (hL : L ≤ 3072) (e : some (v + 6) = some t) : bdL t cz sz := by
  obtain ⟨j, rfl, h1, h2, h3⟩ := hb
  have := bd_j hL h1 cH
  refine ⟨j + 6, ?_, by omega, by omega, by omega⟩
  rw [← Option.some.inj e]
  exact nI_add j 6
theorem bd_next {v t : Int32} {cz sz L : Nat} (hb : bdL v cz sz) (cH : ¬ (Int32.ofNat L - 6 < v)) (hL : L ≤ 3072) (e : some (v + 6) = some t) : bdL t (cz + 16) (sz + 13048) := by
  obtain ⟨j, rfl, h1, h2, h3⟩ := hb
  have := bd_j hL h1 cH
  refine ⟨j + 6, ?_, by omega, by omega, by omega⟩
  rw [← Option.some.inj e]
  exact nI_add j 6
theorem bd_rc {v : Int32} {cz sz L : Nat} (hb : bdL v cz sz) (hL : L ≤ 3072) : cz ≤ room_1.cells ∧ sz ≤ room_1.slots := by
  obtain ⟨j, rfl, h1, h2, h3⟩ := hb
  constructor
  · show cz ≤ 225136; omega
  · show sz ≤ 8426842; omega
theorem bd_ra {v : Int32} {cz sz L : Nat} (hb : bdL v cz sz) (cH : ¬ (Int32.ofNat L - 6 < v)) (hL : L ≤ 3072) : cz + 16 ≤ room_1.cells ∧ sz + 13048 ≤ room_1.slots := by
  obtain ⟨j, rfl, h1, h2, h3⟩ := hb
  constructor
  · show cz + 16 ≤ 225136; omega
  · show sz + 13048 ≤ 8426842; omega
section RL
variable {p : Program} {l : Launch} {e : Env} {R : Room} {s : State} {m : MethodId} {args : Array Value} {below : List Frame} {meth : Method} {c : Code} {Q : State → Prop} {D : va_G} {cA : Nat → ClassId} {B : Nat} {Hb : Heap} {nL : Nat} {h : aH} {pc : Nat} {lv : List (Nat × Value)} {st : List Value} {cells slots : Nat} {own : String} {cc : ByteArray} {ret' : Option FieldType} {xs : Nat → Int32} {L : Nat}
theorem r_xlen (C : cX p s m args meth c D cA B Hb own cc nL ret') (hX : va_X (cA 35) L xs s Hb) (hXb : cA 35 < B) (d : decode cc pc = .ok (.arraylength, 1)) (kk : gW p l e R s m args below meth c Q D cA B Hb nL h (pc + 1) lv (.int (Int32.ofNat L) :: st) cells slots) : gW p l e R s m args below meth c Q D cA B Hb nL h pc lv (.retAddr 5 :: st) cells slots := by
  obtain ⟨scr, h1, h2, h3, h4, h5⟩ := hX
  exact fun H locs ls w hlv => W.alen (n := Int32.ofNat L) C.1 C.2.1 (wW_old w (Nat.not_le.mpr hXb) h1) h2 (by rw [h4] <;> rfl) rfl rfl d (kk H locs ls w hlv)
theorem r_xld {i x : Int32} (C : cX p s m args meth c D cA B Hb own cc nL ret') (hX : va_X (cA 35) L xs s Hb) (hXb : cA 35 < B) (d : decode cc pc = .ok (.iaload, 1)) (hg : xld xs L i = some x) (kk : gW p l e R s m args below meth c Q D cA B Hb nL h (pc + 1) lv (.int x :: st) cells slots) : gW p l e R s m args below meth c Q D cA B Hb nL h pc lv (.int i :: .retAddr 5 :: st) cells slots := by
  obtain ⟨scr, h1, h2, h3, h4, h5⟩ := hX
  unfold xld at hg
  split at hg
  · rename_i q
    cases hg
    refine fun H locs ls w hlv => W.iald (v := .int (xs i.toNatClampNeg)) C.1 C.2.1 (wW_old w (Nat.not_le.mpr hXb) h1) h2 h3 ?_ (h5 _ q.2) rfl rfl d (kk H locs ls w hlv)
    rintro (z | z)
    · exact q.1 z
    · omega
  · cases hg
end RL
theorem r_lend {p : Program} {l : Launch} {e : Env} {s : State} {m : MethodId} {b : Nat} {below : List Frame} {meth : Method} {c : Code} {D : va_G} {cA : Nat → ClassId} {nL : Nat} {h : aH} {pc : Nat} {lv : List (Nat × Value)} {cells slots : Nat} {own : String} (C : cX p s m #[Value.ref b] meth c D cA s.heap.size s.heap own code nL (some .boolean)) (d : decode code pc = .ok (.ireturn, 1)) (hf : cells ≤ room_1.cells ∧ slots ≤ room_1.slots) : gW p l e room_1 s m #[Value.ref b] below meth c (lw_Z below #[Value.ref b] s) D cA s.heap.size s.heap nL h pc lv [.int 1] cells slots := by
  obtain ⟨hx, hb, hml, hown, hts, hK, hlocks, hr⟩ := C
  exact fun H locs ls w hl => va_forget (fun q hq => w.2 q hq) (W.widen hf.1 hf.2 (lw_ret hx hb hr hlocks d))
theorem nk_L_7 : nK RL 7 11 20 := ⟨RX11, TX11, tyX11, rfl, by decide, itX11, in_tB 168 (by decide +kernel) (by decide +kernel), in_tB 169 (by decide +kernel) (by decide +kernel), in_tB 147 (by decide +kernel) (by decide +kernel), rfl, tyX11_ok, tys_ok tyX11 20 (by decide +kernel)⟩
theorem nk_L_10 : nK RL 10 12 48 := ⟨RX12, TX12, tyX12, rfl, by decide, itX12, in_tB 1442 (by decide +kernel) (by decide +kernel), in_tB 1443 (by decide +kernel) (by decide +kernel), in_tB 164 (by decide +kernel) (by decide +kernel), rfl, tyX12_ok, tys_ok tyX12 48 (by decide +kernel)⟩
def f_L_law_b18 (xs : Nat → Int32) (L : Nat) (v0 : Nat) (v1 : Nat) (v2 : Nat) (v3 : Int32) (h : aH) : Option ((Int32 × aH) ⊕ ((aH) ⊕ (aH))) := if ((Int32.ofNat L) - (6 : Int32)) < v3 then some (.inr (.inr h)) else (xld xs L v3).bind fun t7 => if (t7 &&& (63 : Int32)) = (0 : Int32) then (ck h 11 v1).bind fun _ => (f_X11_status h v1).bind fun t349 => (ck h 12 v2).bind fun _ => (f_X12_status h v2).bind fun t350 => if t349 = t350 then (some (v3 + (6 : Int32))).bind fun t351 => some (.inl (t351, h)) else some (.inr (.inl h)) else if (t7 &&& (63 : Int32)) = (1 : Int32) then (ck h 11 v1).bind fun _ => (f_X11_top h v1).bind fun t346 => (ck h 12 v2).bind fun _ => (f_X12_top h v2).bind fun t347 => if (lg_cmp t346 t347) = 0 then (some (v3 + (6 : Int32))).bind fun t348 => some (.inl (t348, h)) else some (.inr (.inl h)) else if (t7 &&& (63 : Int32)) = (2 : Int32) then (ck h 11 v1).bind fun _ => (f_X11_bottom h v1).bind fun t343 => (ck h 12 v2).bind fun _ => (f_X12_bottom h v2).bind fun t344 => if (lg_cmp t343 t344) = 0 then (some (v3 + (6 : Int32))).bind fun t345 => some (.inl (t345, h)) else some (.inr (.inl h)) else if (t7 &&& (63 : Int32)) = (3 : Int32) then (xld xs L (v3 + (1 : Int32))).bind fun t332 => (xld xs L (v3 + (2 : Int32))).bind fun t333 => (xld xs L (v3 + (3 : Int32))).bind fun t334 => (ck h 11 v1).bind fun _ => bd2 (f_X11_tray h v1 t332 t333 t334) fun t335 h336 => (xld xs L (v3 + (1 : Int32))).bind fun t337 => (xld xs L (v3 + (2 : Int32))).bind fun t338 => (xld xs L (v3 + (3 : Int32))).bind fun t339 => (ck h336 12 v2).bind fun _ => bd2 (f_X12_tray h336 v2 t337 t338 t339) fun t340 h341 => if t335 = t340 then (some (v3 + (6 : Int32))).bind fun t342 => some (.inl (t342, h341)) else some (.inr (.inl h341)) else if (t7 &&& (63 : Int32)) = (4 : Int32) then (xld xs L (v3 + (1 : Int32))).bind fun t319 => (xld xs L (v3 + (2 : Int32))).bind fun t320 => (xld xs L (v3 + (3 : Int32))).bind fun t321 => (xld xs L (v3 + (4 : Int32))).bind fun t322 => (ck h 11 v1).bind fun _ => bd2 (f_X11_write h v1 t319 t320 (((Int32.toInt64 t321) <<< (Int32.toInt64 (32 : Int32) &&& 63)) ||| ((Int32.toInt64 t322) &&& (4294967295 : Int64)))) fun t323 h324 => (xld xs L (v3 + (1 : Int32))).bind fun t325 => (xld xs L (v3 + (2 : Int32))).bind fun t326 => (xld xs L (v3 + (3 : Int32))).bind fun t327 => (xld xs L (v3 + (4 : Int32))).bind fun t328 => (ck h324 12 v2).bind fun _ => bd2 (f_X12_write h324 v2 t325 t326 (((Int32.toInt64 t327) <<< (Int32.toInt64 (32 : Int32) &&& 63)) ||| ((Int32.toInt64 t328) &&& (4294967295 : Int64)))) fun t329 h330 => if t323 = t329 then (some (v3 + (6 : Int32))).bind fun t331 => some (.inl (t331, h330)) else some (.inr (.inl h330)) else if (t7 &&& (63 : Int32)) = (5 : Int32) then (xld xs L (v3 + (1 : Int32))).bind fun t310 => (xld xs L (v3 + (2 : Int32))).bind fun t311 => (ck h 11 v1).bind fun _ => bd2 (f_X11_read h v1 t310 t311) fun t312 h313 => (xld xs L (v3 + (1 : Int32))).bind fun t314 => (xld xs L (v3 + (2 : Int32))).bind fun t315 => (ck h313 12 v2).bind fun _ => bd2 (f_X12_read h313 v2 t314 t315) fun t316 h317 => if (lg_cmp t312 t316) = 0 then (some (v3 + (6 : Int32))).bind fun t318 => some (.inl (t318, h317)) else some (.inr (.inl h317)) else if (t7 &&& (63 : Int32)) = (6 : Int32) then (xld xs L (v3 + (1 : Int32))).bind fun t295 => (xld xs L (v3 + (2 : Int32))).bind fun t296 => (xld xs L (v3 + (3 : Int32))).bind fun t297 => (xld xs L (v3 + (4 : Int32))).bind fun t298 => (xld xs L (v3 + (5 : Int32))).bind fun t299 => (ck h 11 v1).bind fun _ => bd2 (f_X11_pour h v1 t295 t296 t297 t298 t299) fun t300 h301 => (xld xs L (v3 + (1 : Int32))).bind fun t302 => (xld xs L (v3 + (2 : Int32))).bind fun t303 => (xld xs L (v3 + (3 : Int32))).bind fun t304 => (xld xs L (v3 + (4 : Int32))).bind fun t305 => (xld xs L (v3 + (5 : Int32))).bind fun t306 => (ck h301 12 v2).bind fun _ => bd2 (f_X12_pour h301 v2 t302 t303 t304 t305 t306) fun t307 h308 => if t300 = t307 then (some (v3 + (6 : Int32))).bind fun t309 => some (.inl (t309, h308)) else some (.inr (.inl h308)) else if (t7 &&& (63 : Int32)) = (7 : Int32) then (xld xs L (v3 + (1 : Int32))).bind fun t280 => (xld xs L (v3 + (2 : Int32))).bind fun t281 => (xld xs L (v3 + (3 : Int32))).bind fun t282 => (xld xs L (v3 + (4 : Int32))).bind fun t283 => (xld xs L (v3 + (5 : Int32))).bind fun t284 => (ck h 11 v1).bind fun _ => bd2 (f_X11_feed h v1 t280 t281 t282 t283 t284) fun t285 h286 => (xld xs L (v3 + (1 : Int32))).bind fun t287 => (xld xs L (v3 + (2 : Int32))).bind fun t288 => (xld xs L (v3 + (3 : Int32))).bind fun t289 => (xld xs L (v3 + (4 : Int32))).bind fun t290 => (xld xs L (v3 + (5 : Int32))).bind fun t291 => (ck h286 12 v2).bind fun _ => bd2 (f_X12_feed h286 v2 t287 t288 t289 t290 t291) fun t292 h293 => if t285 = t292 then (some (v3 + (6 : Int32))).bind fun t294 => some (.inl (t294, h293)) else some (.inr (.inl h293)) else if (t7 &&& (63 : Int32)) = (8 : Int32) then (xld xs L (v3 + (1 : Int32))).bind fun t273 => (ck h 11 v1).bind fun _ => bd2 (f_X11_court h v1 t273) fun t274 h275 => (xld xs L (v3 + (1 : Int32))).bind fun t276 => (ck h275 12 v2).bind fun _ => bd2 (f_X12_court h275 v2 t276) fun t277 h278 => if t274 = t277 then (some (v3 + (6 : Int32))).bind fun t279 => some (.inl (t279, h278)) else some (.inr (.inl h278)) else if (t7 &&& (63 : Int32)) = (9 : Int32) then (xld xs L (v3 + (1 : Int32))).bind fun t266 => (ck h 11 v1).bind fun _ => bd2 (f_X11_plan h v1 t266) fun t267 h268 => (xld xs L (v3 + (1 : Int32))).bind fun t269 => (ck h268 12 v2).bind fun _ => bd2 (f_X12_plan h268 v2 t269) fun t270 h271 => if t267 = t270 then (some (v3 + (6 : Int32))).bind fun t272 => some (.inl (t272, h271)) else some (.inr (.inl h271)) else if (t7 &&& (63 : Int32)) = (10 : Int32) then (xld xs L (v3 + (1 : Int32))).bind fun t261 => (ck h 11 v1).bind fun _ => (f_X11_fault h v1 t261).bind fun t262 => (xld xs L (v3 + (1 : Int32))).bind fun t263 => (ck h 12 v2).bind fun _ => (f_X12_fault h v2 t263).bind fun t264 => if t262 = t264 then (some (v3 + (6 : Int32))).bind fun t265 => some (.inl (t265, h)) else some (.inr (.inl h)) else if (t7 &&& (63 : Int32)) = (11 : Int32) then (xld xs L (v3 + (1 : Int32))).bind fun t254 => (ck h 11 v1).bind fun _ => bd2 (f_X11_told h v1 t254) fun t255 h256 => (xld xs L (v3 + (1 : Int32))).bind fun t257 => (ck h256 12 v2).bind fun _ => bd2 (f_X12_told h256 v2 t257) fun t258 h259 => if t255 = t258 then (some (v3 + (6 : Int32))).bind fun t260 => some (.inl (t260, h259)) else some (.inr (.inl h259)) else if (t7 &&& (63 : Int32)) = (12 : Int32) then (xld xs L (v3 + (1 : Int32))).bind fun t245 => (xld xs L (v3 + (2 : Int32))).bind fun t246 => (ck h 11 v1).bind fun _ => bd2 (f_X11_value h v1 t245 t246) fun t247 h248 => (xld xs L (v3 + (1 : Int32))).bind fun t249 => (xld xs L (v3 + (2 : Int32))).bind fun t250 => (ck h248 12 v2).bind fun _ => bd2 (f_X12_value h248 v2 t249 t250) fun t251 h252 => if t247 = t251 then (some (v3 + (6 : Int32))).bind fun t253 => some (.inl (t253, h252)) else some (.inr (.inl h252)) else if (t7 &&& (63 : Int32)) = (13 : Int32) then (xld xs L (v3 + (1 : Int32))).bind fun t236 => (xld xs L (v3 + (2 : Int32))).bind fun t237 => (ck h 11 v1).bind fun _ => bd2 (f_X11_world h v1 t236 t237) fun t238 h239 => (xld xs L (v3 + (1 : Int32))).bind fun t240 => (xld xs L (v3 + (2 : Int32))).bind fun t241 => (ck h239 12 v2).bind fun _ => bd2 (f_X12_world h239 v2 t240 t241) fun t242 h243 => if t238 = t242 then (some (v3 + (6 : Int32))).bind fun t244 => some (.inl (t244, h243)) else some (.inr (.inl h243)) else if (t7 &&& (63 : Int32)) = (14 : Int32) then (xld xs L (v3 + (1 : Int32))).bind fun t229 => (ck h 11 v1).bind fun _ => bd2 (f_X11_possible h v1 t229) fun t230 h231 => (xld xs L (v3 + (1 : Int32))).bind fun t232 => (ck h231 12 v2).bind fun _ => bd2 (f_X12_possible h231 v2 t232) fun t233 h234 => if t230 = t233 then (some (v3 + (6 : Int32))).bind fun t235 => some (.inl (t235, h234)) else some (.inr (.inl h234)) else if (t7 &&& (63 : Int32)) = (15 : Int32) then (xld xs L (v3 + (1 : Int32))).bind fun t220 => (xld xs L (v3 + (2 : Int32))).bind fun t221 => (ck h 11 v1).bind fun _ => bd2 (f_X11_holds h v1 t220 t221) fun t222 h223 => (xld xs L (v3 + (1 : Int32))).bind fun t224 => (xld xs L (v3 + (2 : Int32))).bind fun t225 => (ck h223 12 v2).bind fun _ => bd2 (f_X12_holds h223 v2 t224 t225) fun t226 h227 => if t222 = t226 then (some (v3 + (6 : Int32))).bind fun t228 => some (.inl (t228, h227)) else some (.inr (.inl h227)) else if (t7 &&& (63 : Int32)) = (16 : Int32) then (xld xs L (v3 + (1 : Int32))).bind fun t213 => (ck h 11 v1).bind fun _ => bd2 (f_X11_fee h v1 t213) fun t214 h215 => (xld xs L (v3 + (1 : Int32))).bind fun t216 => (ck h215 12 v2).bind fun _ => bd2 (f_X12_fee h215 v2 t216) fun t217 h218 => if t214 = t217 then (some (v3 + (6 : Int32))).bind fun t219 => some (.inl (t219, h218)) else some (.inr (.inl h218)) else if (t7 &&& (63 : Int32)) = (17 : Int32) then (xld xs L (v3 + (1 : Int32))).bind fun t204 => (xld xs L (v3 + (2 : Int32))).bind fun t205 => (ck h 11 v1).bind fun _ => bd2 (f_X11_witness h v1 t204 t205) fun t206 h207 => (xld xs L (v3 + (1 : Int32))).bind fun t208 => (xld xs L (v3 + (2 : Int32))).bind fun t209 => (ck h207 12 v2).bind fun _ => bd2 (f_X12_witness h207 v2 t208 t209) fun t210 h211 => if t206 = t210 then (some (v3 + (6 : Int32))).bind fun t212 => some (.inl (t212, h211)) else some (.inr (.inl h211)) else if (t7 &&& (63 : Int32)) = (18 : Int32) then (xld xs L (v3 + (1 : Int32))).bind fun t191 => (xld xs L (v3 + (2 : Int32))).bind fun t192 => (xld xs L (v3 + (3 : Int32))).bind fun t193 => (xld xs L (v3 + (4 : Int32))).bind fun t194 => (ck h 11 v1).bind fun _ => bd2 (f_X11_answer h v1 t191 t192 t193 t194) fun t195 h196 => (xld xs L (v3 + (1 : Int32))).bind fun t197 => (xld xs L (v3 + (2 : Int32))).bind fun t198 => (xld xs L (v3 + (3 : Int32))).bind fun t199 => (xld xs L (v3 + (4 : Int32))).bind fun t200 => (ck h196 12 v2).bind fun _ => bd2 (f_X12_answer h196 v2 t197 t198 t199 t200) fun t201 h202 => if t195 = t201 then (some (v3 + (6 : Int32))).bind fun t203 => some (.inl (t203, h202)) else some (.inr (.inl h202)) else if (t7 &&& (63 : Int32)) = (19 : Int32) then (xld xs L (v3 + (1 : Int32))).bind fun t180 => (xld xs L (v3 + (2 : Int32))).bind fun t181 => (xld xs L (v3 + (3 : Int32))).bind fun t182 => (ck h 11 v1).bind fun _ => bd2 (f_X11_hear h v1 t180 t181 t182) fun t183 h184 => (xld xs L (v3 + (1 : Int32))).bind fun t185 => (xld xs L (v3 + (2 : Int32))).bind fun t186 => (xld xs L (v3 + (3 : Int32))).bind fun t187 => (ck h184 12 v2).bind fun _ => bd2 (f_X12_hear h184 v2 t185 t186 t187) fun t188 h189 => if t183 = t188 then (some (v3 + (6 : Int32))).bind fun t190 => some (.inl (t190, h189)) else some (.inr (.inl h189)) else if (t7 &&& (63 : Int32)) = (20 : Int32) then (ck h 11 v1).bind fun _ => bd2 (f_X11_unsay h v1) fun t175 h176 => (ck h176 12 v2).bind fun _ => bd2 (f_X12_unsay h176 v2) fun t177 h178 => if t175 = t177 then (some (v3 + (6 : Int32))).bind fun t179 => some (.inl (t179, h178)) else some (.inr (.inl h178)) else if (t7 &&& (63 : Int32)) = (21 : Int32) then (ck h 11 v1).bind fun _ => bd2 (f_X11_nextDay h v1) fun t170 h171 => (ck h171 12 v2).bind fun _ => bd2 (f_X12_nextDay h171 v2) fun t172 h173 => if t170 = t172 then (some (v3 + (6 : Int32))).bind fun t174 => some (.inl (t174, h173)) else some (.inr (.inl h173)) else if (t7 &&& (63 : Int32)) = (22 : Int32) then (xld xs L (v3 + (1 : Int32))).bind fun t161 => (xld xs L (v3 + (2 : Int32))).bind fun t162 => (ck h 11 v1).bind fun _ => bd2 (f_X11_heard h v1 t161 t162) fun t163 h164 => (xld xs L (v3 + (1 : Int32))).bind fun t165 => (xld xs L (v3 + (2 : Int32))).bind fun t166 => (ck h164 12 v2).bind fun _ => bd2 (f_X12_heard h164 v2 t165 t166) fun t167 h168 => if t163 = t167 then (some (v3 + (6 : Int32))).bind fun t169 => some (.inl (t169, h168)) else some (.inr (.inl h168)) else if (t7 &&& (63 : Int32)) = (23 : Int32) then (ck h 11 v1).bind fun _ => bd2 (f_X11_left h v1) fun t156 h157 => (ck h157 12 v2).bind fun _ => bd2 (f_X12_left h157 v2) fun t158 h159 => if t156 = t158 then (some (v3 + (6 : Int32))).bind fun t160 => some (.inl (t160, h159)) else some (.inr (.inl h159)) else if (t7 &&& (63 : Int32)) = (24 : Int32) then (xld xs L (v3 + (1 : Int32))).bind fun t149 => (ck h 11 v1).bind fun _ => bd2 (f_X11_isLeft h v1 t149) fun t150 h151 => (xld xs L (v3 + (1 : Int32))).bind fun t152 => (ck h151 12 v2).bind fun _ => bd2 (f_X12_isLeft h151 v2 t152) fun t153 h154 => if t150 = t153 then (some (v3 + (6 : Int32))).bind fun t155 => some (.inl (t155, h154)) else some (.inr (.inl h154)) else if (t7 &&& (63 : Int32)) = (25 : Int32) then (xld xs L (v3 + (1 : Int32))).bind fun t138 => (xld xs L (v3 + (2 : Int32))).bind fun t139 => (xld xs L (v3 + (3 : Int32))).bind fun t140 => (ck h 11 v1).bind fun _ => bd2 (f_X11_fits h v1 t138 t139 t140) fun t141 h142 => (xld xs L (v3 + (1 : Int32))).bind fun t143 => (xld xs L (v3 + (2 : Int32))).bind fun t144 => (xld xs L (v3 + (3 : Int32))).bind fun t145 => (ck h142 12 v2).bind fun _ => bd2 (f_X12_fits h142 v2 t143 t144 t145) fun t146 h147 => if t141 = t146 then (some (v3 + (6 : Int32))).bind fun t148 => some (.inl (t148, h147)) else some (.inr (.inl h147)) else if (t7 &&& (63 : Int32)) = (26 : Int32) then (xld xs L (v3 + (1 : Int32))).bind fun t131 => (ck h 11 v1).bind fun _ => bd2 (f_X11_sure h v1 t131) fun t132 h133 => (xld xs L (v3 + (1 : Int32))).bind fun t134 => (ck h133 12 v2).bind fun _ => bd2 (f_X12_sure h133 v2 t134) fun t135 h136 => if t132 = t135 then (some (v3 + (6 : Int32))).bind fun t137 => some (.inl (t137, h136)) else some (.inr (.inl h136)) else if (t7 &&& (63 : Int32)) = (27 : Int32) then (xld xs L (v3 + (1 : Int32))).bind fun t124 => (ck h 11 v1).bind fun _ => bd2 (f_X11_chance h v1 t124) fun t125 h126 => (xld xs L (v3 + (1 : Int32))).bind fun t127 => (ck h126 12 v2).bind fun _ => bd2 (f_X12_chance h126 v2 t127) fun t128 h129 => if t125 = t128 then (some (v3 + (6 : Int32))).bind fun t130 => some (.inl (t130, h129)) else some (.inr (.inl h129)) else if (t7 &&& (63 : Int32)) = (28 : Int32) then (xld xs L (v3 + (1 : Int32))).bind fun t115 => (xld xs L (v3 + (2 : Int32))).bind fun t116 => (ck h 11 v1).bind fun _ => bd2 (f_X11_trust h v1 t115 t116) fun t117 h118 => (xld xs L (v3 + (1 : Int32))).bind fun t119 => (xld xs L (v3 + (2 : Int32))).bind fun t120 => (ck h118 12 v2).bind fun _ => bd2 (f_X12_trust h118 v2 t119 t120) fun t121 h122 => if t117 = t121 then (some (v3 + (6 : Int32))).bind fun t123 => some (.inl (t123, h122)) else some (.inr (.inl h122)) else if (t7 &&& (63 : Int32)) = (29 : Int32) then (xld xs L (v3 + (1 : Int32))).bind fun t108 => (ck h 11 v1).bind fun _ => bd2 (f_X11_because h v1 t108) fun t109 h110 => (xld xs L (v3 + (1 : Int32))).bind fun t111 => (ck h110 12 v2).bind fun _ => bd2 (f_X12_because h110 v2 t111) fun t112 h113 => if t109 = t112 then (some (v3 + (6 : Int32))).bind fun t114 => some (.inl (t114, h113)) else some (.inr (.inl h113)) else if (t7 &&& (63 : Int32)) = (30 : Int32) then (xld xs L (v3 + (1 : Int32))).bind fun t101 => (ck h 11 v1).bind fun _ => bd2 (f_X11_gave h v1 t101) fun t102 h103 => (xld xs L (v3 + (1 : Int32))).bind fun t104 => (ck h103 12 v2).bind fun _ => bd2 (f_X12_gave h103 v2 t104) fun t105 h106 => if t102 = t105 then (some (v3 + (6 : Int32))).bind fun t107 => some (.inl (t107, h106)) else some (.inr (.inl h106)) else if (t7 &&& (63 : Int32)) = (31 : Int32) then (ck h 11 v1).bind fun _ => bd2 (f_X11_fees h v1) fun t96 h97 => (ck h97 12 v2).bind fun _ => bd2 (f_X12_fees h97 v2) fun t98 h99 => if t96 = t98 then (some (v3 + (6 : Int32))).bind fun t100 => some (.inl (t100, h99)) else some (.inr (.inl h99)) else if (t7 &&& (63 : Int32)) = (32 : Int32) then (xld xs L (v3 + (1 : Int32))).bind fun t87 => (xld xs L (v3 + (2 : Int32))).bind fun t88 => (ck h 11 v1).bind fun _ => bd2 (f_X11_worst h v1 t87 t88) fun t89 h90 => (xld xs L (v3 + (1 : Int32))).bind fun t91 => (xld xs L (v3 + (2 : Int32))).bind fun t92 => (ck h90 12 v2).bind fun _ => bd2 (f_X12_worst h90 v2 t91 t92) fun t93 h94 => if t89 = t93 then (some (v3 + (6 : Int32))).bind fun t95 => some (.inl (t95, h94)) else some (.inr (.inl h94)) else if (t7 &&& (63 : Int32)) = (33 : Int32) then (xld xs L (v3 + (1 : Int32))).bind fun t80 => (ck h 11 v1).bind fun _ => bd2 (f_X11_best h v1 t80) fun t81 h82 => (xld xs L (v3 + (1 : Int32))).bind fun t83 => (ck h82 12 v2).bind fun _ => bd2 (f_X12_best h82 v2 t83) fun t84 h85 => if t81 = t84 then (some (v3 + (6 : Int32))).bind fun t86 => some (.inl (t86, h85)) else some (.inr (.inl h85)) else if (t7 &&& (63 : Int32)) = (34 : Int32) then (xld xs L (v3 + (1 : Int32))).bind fun t71 => (xld xs L (v3 + (2 : Int32))).bind fun t72 => (ck h 11 v1).bind fun _ => bd2 (f_X11_shortest h v1 t71 t72) fun t73 h74 => (xld xs L (v3 + (1 : Int32))).bind fun t75 => (xld xs L (v3 + (2 : Int32))).bind fun t76 => (ck h74 12 v2).bind fun _ => bd2 (f_X12_shortest h74 v2 t75 t76) fun t77 h78 => if t73 = t77 then (some (v3 + (6 : Int32))).bind fun t79 => some (.inl (t79, h78)) else some (.inr (.inl h78)) else if (t7 &&& (63 : Int32)) = (35 : Int32) then (xld xs L (v3 + (1 : Int32))).bind fun t64 => (ck h 11 v1).bind fun _ => bd2 (f_X11_shortestFirst h v1 t64) fun t65 h66 => (xld xs L (v3 + (1 : Int32))).bind fun t67 => (ck h66 12 v2).bind fun _ => bd2 (f_X12_shortestFirst h66 v2 t67) fun t68 h69 => if t65 = t68 then (some (v3 + (6 : Int32))).bind fun t70 => some (.inl (t70, h69)) else some (.inr (.inl h69)) else if (t7 &&& (63 : Int32)) = (36 : Int32) then (ck h 11 v1).bind fun _ => bd2 (f_X11_settled h v1) fun t59 h60 => (ck h60 12 v2).bind fun _ => bd2 (f_X12_settled h60 v2) fun t61 h62 => if t59 = t61 then (some (v3 + (6 : Int32))).bind fun t63 => some (.inl (t63, h62)) else some (.inr (.inl h62)) else if (t7 &&& (63 : Int32)) = (37 : Int32) then (ck h 11 v1).bind fun _ => bd2 (f_X11_bench h v1) fun t54 h55 => (ck h55 12 v2).bind fun _ => bd2 (f_X12_bench h55 v2) fun t56 h57 => if t54 = t56 then (some (v3 + (6 : Int32))).bind fun t58 => some (.inl (t58, h57)) else some (.inr (.inl h57)) else if (t7 &&& (63 : Int32)) = (38 : Int32) then (ck h 11 v1).bind fun _ => bd2 (f_X11_clash h v1) fun t49 h50 => (ck h50 12 v2).bind fun _ => bd2 (f_X12_clash h50 v2) fun t51 h52 => if t49 = t51 then (some (v3 + (6 : Int32))).bind fun t53 => some (.inl (t53, h52)) else some (.inr (.inl h52)) else if (t7 &&& (63 : Int32)) = (39 : Int32) then (ck h 11 v1).bind fun _ => bd2 (f_X11_liars h v1) fun t44 h45 => (ck h45 12 v2).bind fun _ => bd2 (f_X12_liars h45 v2) fun t46 h47 => if t44 = t46 then (some (v3 + (6 : Int32))).bind fun t48 => some (.inl (t48, h47)) else some (.inr (.inl h47)) else if (t7 &&& (63 : Int32)) = (40 : Int32) then (xld xs L (v3 + (1 : Int32))).bind fun t37 => (ck h 11 v1).bind fun _ => bd2 (f_X11_sit h v1 t37) fun t38 h39 => (xld xs L (v3 + (1 : Int32))).bind fun t40 => (ck h39 12 v2).bind fun _ => bd2 (f_X12_sit h39 v2 t40) fun t41 h42 => if t38 = t41 then (some (v3 + (6 : Int32))).bind fun t43 => some (.inl (t43, h42)) else some (.inr (.inl h42)) else if (t7 &&& (63 : Int32)) = (41 : Int32) then (xld xs L (v3 + (1 : Int32))).bind fun t30 => (ck h 11 v1).bind fun _ => bd2 (f_X11_sat h v1 t30) fun t31 h32 => (xld xs L (v3 + (1 : Int32))).bind fun t33 => (ck h32 12 v2).bind fun _ => bd2 (f_X12_sat h32 v2 t33) fun t34 h35 => if t31 = t34 then (some (v3 + (6 : Int32))).bind fun t36 => some (.inl (t36, h35)) else some (.inr (.inl h35)) else if (t7 &&& (63 : Int32)) = (42 : Int32) then (xld xs L (v3 + (1 : Int32))).bind fun t19 => (xld xs L (v3 + (2 : Int32))).bind fun t20 => (xld xs L (v3 + (3 : Int32))).bind fun t21 => (ck h 11 v1).bind fun _ => bd2 (f_X11_tally h v1 t19 t20 t21) fun t22 h23 => (xld xs L (v3 + (1 : Int32))).bind fun t24 => (xld xs L (v3 + (2 : Int32))).bind fun t25 => (xld xs L (v3 + (3 : Int32))).bind fun t26 => (ck h23 12 v2).bind fun _ => bd2 (f_X12_tally h23 v2 t24 t25 t26) fun t27 h28 => if t22 = t27 then (some (v3 + (6 : Int32))).bind fun t29 => some (.inl (t29, h28)) else some (.inr (.inl h28)) else if (t7 &&& (63 : Int32)) = (43 : Int32) then (ck h 11 v1).bind fun _ => bd2 (f_X11_mark h v1) fun t14 h15 => (ck h15 12 v2).bind fun _ => bd2 (f_X12_mark h15 v2) fun t16 h17 => if t14 = t16 then (some (v3 + (6 : Int32))).bind fun t18 => some (.inl (t18, h17)) else some (.inr (.inl h17)) else if (t7 &&& (63 : Int32)) = (44 : Int32) then (ck h 11 v1).bind fun _ => bd2 (f_X11_back h v1) fun t9 h10 => (ck h10 12 v2).bind fun _ => bd2 (f_X12_back h10 v2) fun t11 h12 => if t9 = t11 then (some (v3 + (6 : Int32))).bind fun t13 => some (.inl (t13, h12)) else some (.inr (.inl h12)) else (some (v3 + (6 : Int32))).bind fun t8 => some (.inl (t8, h))
def f_L_law_l18 (xs : Nat → Int32) (L : Nat) (v0 : Nat) (v1 : Nat) (v2 : Nat) (v3 : Int32) (h : aH) : Option ((aH) ⊕ (aH)) := whileL wN (fun q : Int32 × aH => f_L_law_b18 xs L v0 v1 v2 q.1 q.2) (v3, h)
def f_L_law (xs : Nat → Int32) (L : Nat) (h : aH) : Option (Int32 × aH) := bd2 (nwO h 11 20) fun t1 h2 => (f_X11_init h2 t1).bind fun h3 => bd2 (nwO h3 12 48) fun t4 h5 => (f_X12_init h5 t4).bind fun h6 => (f_L_law_l18 xs L 5 t1 t4 (0 : Int32) h6).bind fun e => match e with | .inl h352 => some ((0 : Int32), h352) | .inr h353 => some ((1 : Int32), h353)
theorem s_L_law {p : Program} {l : Launch} {e : Env} {s : State} {m : MethodId} {below : List Frame} {meth : Method} {c : Code} {D : va_G} {cA : Nat → ClassId} {b L : Nat} {xs : Nat → Int32} (hL : L ≤ 3072) (C : cX p s m #[Value.ref b] meth c D cA s.heap.size s.heap RL code 4 (some .boolean)) (hX : va_X (cA 35) L xs s s.heap) (hXb : cA 35 < s.heap.size) {h : aH} {out : Int32 × aH} (ho : out.1 = 1) (hf0 : f_L_law xs L h = some out) : gW p l e room_1 s m #[Value.ref b] below meth c (lw_Z below #[Value.ref b] s) D cA s.heap.size s.heap 4 h 0 [(0, .retAddr 5)] [] 0 0 := by
  unfold f_L_law at hf0
  obtain ⟨t1, h2, e3, hf0⟩ := ob2 hf0
  refine r_newE C nk_L_7 dL_law_0 ⟨Nat.le_of_ble_eq_true rfl, Nat.le_of_ble_eq_true rfl⟩ e3 ?_
  refine r_dup C dL_law_3 rfl ?_
  obtain ⟨h4, e5, hf0⟩ := ob hf0
  refine r_callI (rest := [.ref t1]) C (s_X11_init e5) mk_X11_init rfl im_X11_init lk_L_9 rfl rfl dL_law_4 (Nat.le_of_ble_eq_true rfl) ⟨Nat.le_of_ble_eq_true rfl, Nat.le_of_ble_eq_true rfl⟩ ⟨Nat.le_of_ble_eq_true rfl, Nat.le_of_ble_eq_true rfl⟩ ?_
  refine r_astore_n (lv' := [(1, .ref t1), (0, .retAddr 5)]) C dL_law_7 (by decide) rfl rfl ?_
  obtain ⟨t6, h7, e8, hf0⟩ := ob2 hf0
  refine r_newE C nk_L_10 dL_law_8 ⟨Nat.le_of_ble_eq_true rfl, Nat.le_of_ble_eq_true rfl⟩ e8 ?_
  refine r_dup C dL_law_11 rfl ?_
  obtain ⟨h9, e10, hf0⟩ := ob hf0
  refine r_callI (rest := [.ref t6]) C (s_X12_init e10) mk_X12_init rfl im_X12_init lk_L_12 rfl rfl dL_law_12 (Nat.le_of_ble_eq_true rfl) ⟨Nat.le_of_ble_eq_true rfl, Nat.le_of_ble_eq_true rfl⟩ ⟨Nat.le_of_ble_eq_true rfl, Nat.le_of_ble_eq_true rfl⟩ ?_
  refine r_astore_n (lv' := [(2, .ref t6), (1, .ref t1), (0, .retAddr 5)]) C dL_law_15 (by decide) rfl rfl ?_
  refine r_iconst (v := 0) C dL_law_16 (by decide) ?_
  refine r_istore_n (lv' := [(3, .int (0 : Int32)), (2, .ref t6), (1, .ref t1), (0, .retAddr 5)]) C dL_law_17 (by decide) rfl rfl ?_
  obtain ⟨y11, hl18, hf0⟩ := ob hf0
  have L18 : ∀ (n : Nat) (t12 : Int32) (h13 : aH) (cz sz : Nat), bdL t12 cz sz → whileL n (fun q : Int32 × aH => f_L_law_b18 xs L 5 t1 t6 q.1 q.2) (t12, h13) = some y11 → gW p l e room_1 s m #[Value.ref b] below meth c (lw_Z below #[Value.ref b] s) D cA s.heap.size s.heap 4 h13 18 [(0, .retAddr 5), (1, .ref t1), (2, .ref t6), (3, .int t12)] [] cz sz := by
    intro n
    induction n with
    | zero => intro t12 h13 cz sz hbd hz; cases hz
    | succ n ih18 =>
      intro t12 h13 cz sz hbd hz
      obtain ⟨x18, hf1, hk18⟩ := wl hz
      replace hf1 : f_L_law_b18 xs L 5 t1 t6 t12 h13 = some x18 := hf1
      unfold f_L_law_b18 at hf1
      refine r_iload_n C dL_law_18 rfl ?_
      refine r_sload_n C dL_law_19 rfl ?_
      refine r_xlen C hX hXb dL_law_20 ?_
      refine r_bipush (v := 6) C dL_law_21 (by decide) ?_
      refine r_isub C dL_law_23 ?_
      refine r_icmp_gt (tgt := 1472) C dL_law_24 (by decide) (fun cH => ?_) (fun cH => ?_)
      · rw [if_pos cH] at hf1
        obtain rfl := so hf1
        obtain rfl := so (show some (.inr h13 : (aH) ⊕ (aH)) = some y11 from hk18)
        dsimp only at hf0
        refine r_iconst (v := 1) C dL_law_1472 (by decide) ?_
        obtain rfl := so hf0
        exact r_lend C dL_law_1473 (bd_rc hbd hL)
      · rw [if_neg cH] at hf1
        refine r_sload_n C dL_law_27 rfl ?_
        refine r_iload_n C dL_law_28 rfl ?_
        obtain ⟨t15, e16, hf1⟩ := ob hf1
        refine r_xld C hX hXb dL_law_29 e16 ?_
        refine r_bipush (v := 63) C dL_law_30 (by decide) ?_
        refine r_iand C dL_law_32 ?_
        by_cases c17 : (t15 &&& (63 : Int32)) = (0 : Int32)
        · rw [if_pos c17] at hf1
          refine r_tabIn (k := 0) (off := 195) (tgt := 228) C dL_law_33 c17 (by decide) (by decide) (by decide) (by decide) ?_
          refine r_aload_n C dL_law_228 rfl ?_
          obtain ⟨u19, e18, hf1⟩ := ob hf1
          obtain ⟨t20, e21, hf1⟩ := ob hf1
          refine r_cV (ci := 11) (rest := []) (st2 := [.int t20]) C (s_X11_status e21) mk_X11_status rfl (ck_k e18) (by decide) im_X11_status sl_X11_status lk_L_13 rfl rfl rfl dL_law_229 (Nat.le_of_ble_eq_true rfl) ⟨Nat.le_of_ble_eq_true rfl, Nat.le_of_ble_eq_true rfl⟩ (bd_rc hbd hL) ?_
          refine r_aload_n C dL_law_232 rfl ?_
          obtain ⟨u23, e22, hf1⟩ := ob hf1
          obtain ⟨t24, e25, hf1⟩ := ob hf1
          refine r_cV (ci := 12) (rest := [.int t20]) (st2 := [.int t24, .int t20]) C (s_X12_status e25) mk_X12_status rfl (ck_k e22) (by decide) im_X12_status sl_X12_status lk_L_17 rfl rfl rfl dL_law_233 (Nat.le_of_ble_eq_true rfl) ⟨Nat.le_of_ble_eq_true rfl, Nat.le_of_ble_eq_true rfl⟩ (bd_rc hbd hL) ?_
          refine r_icmp_eq (tgt := 1466) C dL_law_236 (by decide) (fun c26 => ?_) (fun c26 => ?_)
          · rw [if_pos c26] at hf1
            obtain ⟨t27, e28, hf1⟩ := ob hf1
            refine r_iinc (lv' := [(3, .int t27), (0, .retAddr 5), (1, .ref t1), (2, .ref t6)]) C dL_law_1466 rfl e28 (by decide) rfl ?_
            refine r_goto (tgt := 18) C dL_law_1469 (by decide) ?_
            obtain rfl := so hf1
            refine r_subk [1, 2, 3, 0] (lv' := [(0, .retAddr 5), (1, .ref t1), (2, .ref t6), (3, .int t27)]) rfl ?_
            exact ih18 t27 h13 cz sz (bd_same hbd cH hL e28) hk18
          · rw [if_neg c26] at hf1
            obtain rfl := so hf1
            obtain rfl := so (show some (.inl h13 : (aH) ⊕ (aH)) = some y11 from hk18)
            dsimp only at hf0
            obtain rfl := so hf0
            exact absurd ho (show ¬ ((0 : Int32) = 1) by decide)
        · rw [if_neg c17] at hf1
          by_cases c29 : (t15 &&& (63 : Int32)) = (1 : Int32)
          · rw [if_pos c29] at hf1
            refine r_tabIn (k := 1) (off := 208) (tgt := 241) C dL_law_33 c29 (by decide) (by decide) (by decide) (by decide) ?_
            refine r_aload_n C dL_law_241 rfl ?_
            obtain ⟨u31, e30, hf1⟩ := ob hf1
            obtain ⟨t32, e33, hf1⟩ := ob hf1
            refine r_cV (ci := 11) (rest := []) (st2 := [.long t32]) C (s_X11_top e33) mk_X11_top rfl (ck_k e30) (by decide) im_X11_top sl_X11_top lk_L_18 rfl rfl rfl dL_law_242 (Nat.le_of_ble_eq_true rfl) ⟨Nat.le_of_ble_eq_true rfl, Nat.le_of_ble_eq_true rfl⟩ (bd_rc hbd hL) ?_
            refine r_aload_n C dL_law_245 rfl ?_
            obtain ⟨u35, e34, hf1⟩ := ob hf1
            obtain ⟨t36, e37, hf1⟩ := ob hf1
            refine r_cV (ci := 12) (rest := [.long t32]) (st2 := [.long t36, .long t32]) C (s_X12_top e37) mk_X12_top rfl (ck_k e34) (by decide) im_X12_top sl_X12_top lk_L_22 rfl rfl rfl dL_law_246 (Nat.le_of_ble_eq_true rfl) ⟨Nat.le_of_ble_eq_true rfl, Nat.le_of_ble_eq_true rfl⟩ (bd_rc hbd hL) ?_
            refine r_lcmp C dL_law_249 ?_
            refine r_ifeq (tgt := 1466) C dL_law_250 (by decide) (fun c38 => ?_) (fun c38 => ?_)
            · rw [if_pos c38] at hf1
              obtain ⟨t39, e40, hf1⟩ := ob hf1
              refine r_iinc (lv' := [(3, .int t39), (0, .retAddr 5), (1, .ref t1), (2, .ref t6)]) C dL_law_1466 rfl e40 (by decide) rfl ?_
              refine r_goto (tgt := 18) C dL_law_1469 (by decide) ?_
              obtain rfl := so hf1
              refine r_subk [1, 2, 3, 0] (lv' := [(0, .retAddr 5), (1, .ref t1), (2, .ref t6), (3, .int t39)]) rfl ?_
              exact ih18 t39 h13 cz sz (bd_same hbd cH hL e40) hk18
            · rw [if_neg c38] at hf1
              obtain rfl := so hf1
              obtain rfl := so (show some (.inl h13 : (aH) ⊕ (aH)) = some y11 from hk18)
              dsimp only at hf0
              obtain rfl := so hf0
              exact absurd ho (show ¬ ((0 : Int32) = 1) by decide)
          · rw [if_neg c29] at hf1
            by_cases c41 : (t15 &&& (63 : Int32)) = (2 : Int32)
            · rw [if_pos c41] at hf1
              refine r_tabIn (k := 2) (off := 222) (tgt := 255) C dL_law_33 c41 (by decide) (by decide) (by decide) (by decide) ?_
              refine r_aload_n C dL_law_255 rfl ?_
              obtain ⟨u43, e42, hf1⟩ := ob hf1
              obtain ⟨t44, e45, hf1⟩ := ob hf1
              refine r_cV (ci := 11) (rest := []) (st2 := [.long t44]) C (s_X11_bottom e45) mk_X11_bottom rfl (ck_k e42) (by decide) im_X11_bottom sl_X11_bottom lk_L_23 rfl rfl rfl dL_law_256 (Nat.le_of_ble_eq_true rfl) ⟨Nat.le_of_ble_eq_true rfl, Nat.le_of_ble_eq_true rfl⟩ (bd_rc hbd hL) ?_
              refine r_aload_n C dL_law_259 rfl ?_
              obtain ⟨u47, e46, hf1⟩ := ob hf1
              obtain ⟨t48, e49, hf1⟩ := ob hf1
              refine r_cV (ci := 12) (rest := [.long t44]) (st2 := [.long t48, .long t44]) C (s_X12_bottom e49) mk_X12_bottom rfl (ck_k e46) (by decide) im_X12_bottom sl_X12_bottom lk_L_26 rfl rfl rfl dL_law_260 (Nat.le_of_ble_eq_true rfl) ⟨Nat.le_of_ble_eq_true rfl, Nat.le_of_ble_eq_true rfl⟩ (bd_rc hbd hL) ?_
              refine r_lcmp C dL_law_263 ?_
              refine r_ifeq (tgt := 1466) C dL_law_264 (by decide) (fun c50 => ?_) (fun c50 => ?_)
              · rw [if_pos c50] at hf1
                obtain ⟨t51, e52, hf1⟩ := ob hf1
                refine r_iinc (lv' := [(3, .int t51), (0, .retAddr 5), (1, .ref t1), (2, .ref t6)]) C dL_law_1466 rfl e52 (by decide) rfl ?_
                refine r_goto (tgt := 18) C dL_law_1469 (by decide) ?_
                obtain rfl := so hf1
                refine r_subk [1, 2, 3, 0] (lv' := [(0, .retAddr 5), (1, .ref t1), (2, .ref t6), (3, .int t51)]) rfl ?_
                exact ih18 t51 h13 cz sz (bd_same hbd cH hL e52) hk18
              · rw [if_neg c50] at hf1
                obtain rfl := so hf1
                obtain rfl := so (show some (.inl h13 : (aH) ⊕ (aH)) = some y11 from hk18)
                dsimp only at hf0
                obtain rfl := so hf0
                exact absurd ho (show ¬ ((0 : Int32) = 1) by decide)
            · rw [if_neg c41] at hf1
              by_cases c53 : (t15 &&& (63 : Int32)) = (3 : Int32)
              · rw [if_pos c53] at hf1
                refine r_tabIn (k := 3) (off := 236) (tgt := 269) C dL_law_33 c53 (by decide) (by decide) (by decide) (by decide) ?_
                refine r_aload_n C dL_law_269 rfl ?_
                refine r_sload_n C dL_law_270 rfl ?_
                refine r_iload_n C dL_law_271 rfl ?_
                refine r_iconst (v := 1) C dL_law_272 (by decide) ?_
                refine r_iadd C dL_law_273 ?_
                obtain ⟨t54, e55, hf1⟩ := ob hf1
                refine r_xld C hX hXb dL_law_274 e55 ?_
                refine r_sload_n C dL_law_275 rfl ?_
                refine r_iload_n C dL_law_276 rfl ?_
                refine r_iconst (v := 2) C dL_law_277 (by decide) ?_
                refine r_iadd C dL_law_278 ?_
                obtain ⟨t56, e57, hf1⟩ := ob hf1
                refine r_xld C hX hXb dL_law_279 e57 ?_
                refine r_sload_n C dL_law_280 rfl ?_
                refine r_iload_n C dL_law_281 rfl ?_
                refine r_iconst (v := 3) C dL_law_282 (by decide) ?_
                refine r_iadd C dL_law_283 ?_
                obtain ⟨t58, e59, hf1⟩ := ob hf1
                refine r_xld C hX hXb dL_law_284 e59 ?_
                obtain ⟨u61, e60, hf1⟩ := ob hf1
                obtain ⟨t62, h63, e64, hf1⟩ := ob2 hf1
                refine r_cV (ci := 11) (rest := []) (st2 := [.int t62]) C (s_X11_tray e64) mk_X11_tray rfl (ck_k e60) (by decide) im_X11_tray sl_X11_tray lk_L_27 rfl rfl rfl dL_law_285 (Nat.le_of_ble_eq_true rfl) ⟨Nat.le_of_ble_eq_true rfl, Nat.le_of_ble_eq_true rfl⟩ (bd_rc hbd hL) ?_
                refine r_aload_n C dL_law_288 rfl ?_
                refine r_sload_n C dL_law_289 rfl ?_
                refine r_iload_n C dL_law_290 rfl ?_
                refine r_iconst (v := 1) C dL_law_291 (by decide) ?_
                refine r_iadd C dL_law_292 ?_
                obtain ⟨t65, e66, hf1⟩ := ob hf1
                refine r_xld C hX hXb dL_law_293 e66 ?_
                refine r_sload_n C dL_law_294 rfl ?_
                refine r_iload_n C dL_law_295 rfl ?_
                refine r_iconst (v := 2) C dL_law_296 (by decide) ?_
                refine r_iadd C dL_law_297 ?_
                obtain ⟨t67, e68, hf1⟩ := ob hf1
                refine r_xld C hX hXb dL_law_298 e68 ?_
                refine r_sload_n C dL_law_299 rfl ?_
                refine r_iload_n C dL_law_300 rfl ?_
                refine r_iconst (v := 3) C dL_law_301 (by decide) ?_
                refine r_iadd C dL_law_302 ?_
                obtain ⟨t69, e70, hf1⟩ := ob hf1
                refine r_xld C hX hXb dL_law_303 e70 ?_
                obtain ⟨u72, e71, hf1⟩ := ob hf1
                obtain ⟨t73, h74, e75, hf1⟩ := ob2 hf1
                refine r_cV (ci := 12) (rest := [.int t62]) (st2 := [.int t73, .int t62]) C (s_X12_tray e75) mk_X12_tray rfl (ck_k e71) (by decide) im_X12_tray sl_X12_tray lk_L_31 rfl rfl rfl dL_law_304 (Nat.le_of_ble_eq_true rfl) ⟨Nat.le_of_ble_eq_true rfl, Nat.le_of_ble_eq_true rfl⟩ (bd_rc hbd hL) ?_
                refine r_icmp_eq (tgt := 1466) C dL_law_307 (by decide) (fun c76 => ?_) (fun c76 => ?_)
                · rw [if_pos c76] at hf1
                  obtain ⟨t77, e78, hf1⟩ := ob hf1
                  refine r_iinc (lv' := [(3, .int t77), (0, .retAddr 5), (1, .ref t1), (2, .ref t6)]) C dL_law_1466 rfl e78 (by decide) rfl ?_
                  refine r_goto (tgt := 18) C dL_law_1469 (by decide) ?_
                  obtain rfl := so hf1
                  refine r_subk [1, 2, 3, 0] (lv' := [(0, .retAddr 5), (1, .ref t1), (2, .ref t6), (3, .int t77)]) rfl ?_
                  exact ih18 t77 h74 cz sz (bd_same hbd cH hL e78) hk18
                · rw [if_neg c76] at hf1
                  obtain rfl := so hf1
                  obtain rfl := so (show some (.inl h74 : (aH) ⊕ (aH)) = some y11 from hk18)
                  dsimp only at hf0
                  obtain rfl := so hf0
                  exact absurd ho (show ¬ ((0 : Int32) = 1) by decide)
              · rw [if_neg c53] at hf1
                by_cases c79 : (t15 &&& (63 : Int32)) = (4 : Int32)
                · rw [if_pos c79] at hf1
                  refine r_tabIn (k := 4) (off := 279) (tgt := 312) C dL_law_33 c79 (by decide) (by decide) (by decide) (by decide) ?_
                  refine r_aload_n C dL_law_312 rfl ?_
                  refine r_sload_n C dL_law_313 rfl ?_
                  refine r_iload_n C dL_law_314 rfl ?_
                  refine r_iconst (v := 1) C dL_law_315 (by decide) ?_
                  refine r_iadd C dL_law_316 ?_
                  obtain ⟨t80, e81, hf1⟩ := ob hf1
                  refine r_xld C hX hXb dL_law_317 e81 ?_
                  refine r_sload_n C dL_law_318 rfl ?_
                  refine r_iload_n C dL_law_319 rfl ?_
                  refine r_iconst (v := 2) C dL_law_320 (by decide) ?_
                  refine r_iadd C dL_law_321 ?_
                  obtain ⟨t82, e83, hf1⟩ := ob hf1
                  refine r_xld C hX hXb dL_law_322 e83 ?_
                  refine r_sload_n C dL_law_323 rfl ?_
                  refine r_iload_n C dL_law_324 rfl ?_
                  refine r_iconst (v := 3) C dL_law_325 (by decide) ?_
                  refine r_iadd C dL_law_326 ?_
                  obtain ⟨t84, e85, hf1⟩ := ob hf1
                  refine r_xld C hX hXb dL_law_327 e85 ?_
                  refine r_i2l C dL_law_328 ?_
                  refine r_bipush (v := 32) C dL_law_329 (by decide) ?_
                  refine r_lshl C dL_law_331 ?_
                  refine r_sload_n C dL_law_332 rfl ?_
                  refine r_iload_n C dL_law_333 rfl ?_
                  refine r_iconst (v := 4) C dL_law_334 (by decide) ?_
                  refine r_iadd C dL_law_335 ?_
                  obtain ⟨t86, e87, hf1⟩ := ob hf1
                  refine r_xld C hX hXb dL_law_336 e87 ?_
                  refine r_i2l C dL_law_337 ?_
                  refine r_ldc2 (v := 4294967295) C dL_law_338 cl_L_32 ?_
                  refine r_land C dL_law_341 ?_
                  refine r_lor C dL_law_342 ?_
                  obtain ⟨u89, e88, hf1⟩ := ob hf1
                  obtain ⟨t90, h91, e92, hf1⟩ := ob2 hf1
                  refine r_cV (ci := 11) (rest := []) (st2 := [.int t90]) C (s_X11_write e92) mk_X11_write rfl (ck_k e88) (by decide) im_X11_write sl_X11_write lk_L_34 rfl rfl rfl dL_law_343 (Nat.le_of_ble_eq_true rfl) ⟨Nat.le_of_ble_eq_true rfl, Nat.le_of_ble_eq_true rfl⟩ (bd_rc hbd hL) ?_
                  refine r_aload_n C dL_law_346 rfl ?_
                  refine r_sload_n C dL_law_347 rfl ?_
                  refine r_iload_n C dL_law_348 rfl ?_
                  refine r_iconst (v := 1) C dL_law_349 (by decide) ?_
                  refine r_iadd C dL_law_350 ?_
                  obtain ⟨t93, e94, hf1⟩ := ob hf1
                  refine r_xld C hX hXb dL_law_351 e94 ?_
                  refine r_sload_n C dL_law_352 rfl ?_
                  refine r_iload_n C dL_law_353 rfl ?_
                  refine r_iconst (v := 2) C dL_law_354 (by decide) ?_
                  refine r_iadd C dL_law_355 ?_
                  obtain ⟨t95, e96, hf1⟩ := ob hf1
                  refine r_xld C hX hXb dL_law_356 e96 ?_
                  refine r_sload_n C dL_law_357 rfl ?_
                  refine r_iload_n C dL_law_358 rfl ?_
                  refine r_iconst (v := 3) C dL_law_359 (by decide) ?_
                  refine r_iadd C dL_law_360 ?_
                  obtain ⟨t97, e98, hf1⟩ := ob hf1
                  refine r_xld C hX hXb dL_law_361 e98 ?_
                  refine r_i2l C dL_law_362 ?_
                  refine r_bipush (v := 32) C dL_law_363 (by decide) ?_
                  refine r_lshl C dL_law_365 ?_
                  refine r_sload_n C dL_law_366 rfl ?_
                  refine r_iload_n C dL_law_367 rfl ?_
                  refine r_iconst (v := 4) C dL_law_368 (by decide) ?_
                  refine r_iadd C dL_law_369 ?_
                  obtain ⟨t99, e100, hf1⟩ := ob hf1
                  refine r_xld C hX hXb dL_law_370 e100 ?_
                  refine r_i2l C dL_law_371 ?_
                  refine r_ldc2 (v := 4294967295) C dL_law_372 cl_L_32 ?_
                  refine r_land C dL_law_375 ?_
                  refine r_lor C dL_law_376 ?_
                  obtain ⟨u102, e101, hf1⟩ := ob hf1
                  obtain ⟨t103, h104, e105, hf1⟩ := ob2 hf1
                  refine r_cV (ci := 12) (rest := [.int t90]) (st2 := [.int t103, .int t90]) C (s_X12_write e105) mk_X12_write rfl (ck_k e101) (by decide) im_X12_write sl_X12_write lk_L_38 rfl rfl rfl dL_law_377 (Nat.le_of_ble_eq_true rfl) ⟨Nat.le_of_ble_eq_true rfl, Nat.le_of_ble_eq_true rfl⟩ (bd_rc hbd hL) ?_
                  refine r_icmp_eq (tgt := 1466) C dL_law_380 (by decide) (fun c106 => ?_) (fun c106 => ?_)
                  · rw [if_pos c106] at hf1
                    obtain ⟨t107, e108, hf1⟩ := ob hf1
                    refine r_iinc (lv' := [(3, .int t107), (0, .retAddr 5), (1, .ref t1), (2, .ref t6)]) C dL_law_1466 rfl e108 (by decide) rfl ?_
                    refine r_goto (tgt := 18) C dL_law_1469 (by decide) ?_
                    obtain rfl := so hf1
                    refine r_subk [1, 2, 3, 0] (lv' := [(0, .retAddr 5), (1, .ref t1), (2, .ref t6), (3, .int t107)]) rfl ?_
                    exact ih18 t107 h104 cz sz (bd_same hbd cH hL e108) hk18
                  · rw [if_neg c106] at hf1
                    obtain rfl := so hf1
                    obtain rfl := so (show some (.inl h104 : (aH) ⊕ (aH)) = some y11 from hk18)
                    dsimp only at hf0
                    obtain rfl := so hf0
                    exact absurd ho (show ¬ ((0 : Int32) = 1) by decide)
                · rw [if_neg c79] at hf1
                  by_cases c109 : (t15 &&& (63 : Int32)) = (5 : Int32)
                  · rw [if_pos c109] at hf1
                    refine r_tabIn (k := 5) (off := 352) (tgt := 385) C dL_law_33 c109 (by decide) (by decide) (by decide) (by decide) ?_
                    refine r_aload_n C dL_law_385 rfl ?_
                    refine r_sload_n C dL_law_386 rfl ?_
                    refine r_iload_n C dL_law_387 rfl ?_
                    refine r_iconst (v := 1) C dL_law_388 (by decide) ?_
                    refine r_iadd C dL_law_389 ?_
                    obtain ⟨t110, e111, hf1⟩ := ob hf1
                    refine r_xld C hX hXb dL_law_390 e111 ?_
                    refine r_sload_n C dL_law_391 rfl ?_
                    refine r_iload_n C dL_law_392 rfl ?_
                    refine r_iconst (v := 2) C dL_law_393 (by decide) ?_
                    refine r_iadd C dL_law_394 ?_
                    obtain ⟨t112, e113, hf1⟩ := ob hf1
                    refine r_xld C hX hXb dL_law_395 e113 ?_
                    obtain ⟨u115, e114, hf1⟩ := ob hf1
                    obtain ⟨t116, h117, e118, hf1⟩ := ob2 hf1
                    refine r_cV (ci := 11) (rest := []) (st2 := [.long t116]) C (s_X11_read e118) mk_X11_read rfl (ck_k e114) (by decide) im_X11_read sl_X11_read lk_L_39 rfl rfl rfl dL_law_396 (Nat.le_of_ble_eq_true rfl) ⟨Nat.le_of_ble_eq_true rfl, Nat.le_of_ble_eq_true rfl⟩ (bd_rc hbd hL) ?_
                    refine r_aload_n C dL_law_399 rfl ?_
                    refine r_sload_n C dL_law_400 rfl ?_
                    refine r_iload_n C dL_law_401 rfl ?_
                    refine r_iconst (v := 1) C dL_law_402 (by decide) ?_
                    refine r_iadd C dL_law_403 ?_
                    obtain ⟨t119, e120, hf1⟩ := ob hf1
                    refine r_xld C hX hXb dL_law_404 e120 ?_
                    refine r_sload_n C dL_law_405 rfl ?_
                    refine r_iload_n C dL_law_406 rfl ?_
                    refine r_iconst (v := 2) C dL_law_407 (by decide) ?_
                    refine r_iadd C dL_law_408 ?_
                    obtain ⟨t121, e122, hf1⟩ := ob hf1
                    refine r_xld C hX hXb dL_law_409 e122 ?_
                    obtain ⟨u124, e123, hf1⟩ := ob hf1
                    obtain ⟨t125, h126, e127, hf1⟩ := ob2 hf1
                    refine r_cV (ci := 12) (rest := [.long t116]) (st2 := [.long t125, .long t116]) C (s_X12_read e127) mk_X12_read rfl (ck_k e123) (by decide) im_X12_read sl_X12_read lk_L_43 rfl rfl rfl dL_law_410 (Nat.le_of_ble_eq_true rfl) ⟨Nat.le_of_ble_eq_true rfl, Nat.le_of_ble_eq_true rfl⟩ (bd_rc hbd hL) ?_
                    refine r_lcmp C dL_law_413 ?_
                    refine r_ifeq (tgt := 1466) C dL_law_414 (by decide) (fun c128 => ?_) (fun c128 => ?_)
                    · rw [if_pos c128] at hf1
                      obtain ⟨t129, e130, hf1⟩ := ob hf1
                      refine r_iinc (lv' := [(3, .int t129), (0, .retAddr 5), (1, .ref t1), (2, .ref t6)]) C dL_law_1466 rfl e130 (by decide) rfl ?_
                      refine r_goto (tgt := 18) C dL_law_1469 (by decide) ?_
                      obtain rfl := so hf1
                      refine r_subk [1, 2, 3, 0] (lv' := [(0, .retAddr 5), (1, .ref t1), (2, .ref t6), (3, .int t129)]) rfl ?_
                      exact ih18 t129 h126 cz sz (bd_same hbd cH hL e130) hk18
                    · rw [if_neg c128] at hf1
                      obtain rfl := so hf1
                      obtain rfl := so (show some (.inl h126 : (aH) ⊕ (aH)) = some y11 from hk18)
                      dsimp only at hf0
                      obtain rfl := so hf0
                      exact absurd ho (show ¬ ((0 : Int32) = 1) by decide)
                  · rw [if_neg c109] at hf1
                    by_cases c131 : (t15 &&& (63 : Int32)) = (6 : Int32)
                    · rw [if_pos c131] at hf1
                      refine r_tabIn (k := 6) (off := 386) (tgt := 419) C dL_law_33 c131 (by decide) (by decide) (by decide) (by decide) ?_
                      refine r_aload_n C dL_law_419 rfl ?_
                      refine r_sload_n C dL_law_420 rfl ?_
                      refine r_iload_n C dL_law_421 rfl ?_
                      refine r_iconst (v := 1) C dL_law_422 (by decide) ?_
                      refine r_iadd C dL_law_423 ?_
                      obtain ⟨t132, e133, hf1⟩ := ob hf1
                      refine r_xld C hX hXb dL_law_424 e133 ?_
                      refine r_sload_n C dL_law_425 rfl ?_
                      refine r_iload_n C dL_law_426 rfl ?_
                      refine r_iconst (v := 2) C dL_law_427 (by decide) ?_
                      refine r_iadd C dL_law_428 ?_
                      obtain ⟨t134, e135, hf1⟩ := ob hf1
                      refine r_xld C hX hXb dL_law_429 e135 ?_
                      refine r_sload_n C dL_law_430 rfl ?_
                      refine r_iload_n C dL_law_431 rfl ?_
                      refine r_iconst (v := 3) C dL_law_432 (by decide) ?_
                      refine r_iadd C dL_law_433 ?_
                      obtain ⟨t136, e137, hf1⟩ := ob hf1
                      refine r_xld C hX hXb dL_law_434 e137 ?_
                      refine r_sload_n C dL_law_435 rfl ?_
                      refine r_iload_n C dL_law_436 rfl ?_
                      refine r_iconst (v := 4) C dL_law_437 (by decide) ?_
                      refine r_iadd C dL_law_438 ?_
                      obtain ⟨t138, e139, hf1⟩ := ob hf1
                      refine r_xld C hX hXb dL_law_439 e139 ?_
                      refine r_sload_n C dL_law_440 rfl ?_
                      refine r_iload_n C dL_law_441 rfl ?_
                      refine r_iconst (v := 5) C dL_law_442 (by decide) ?_
                      refine r_iadd C dL_law_443 ?_
                      obtain ⟨t140, e141, hf1⟩ := ob hf1
                      refine r_xld C hX hXb dL_law_444 e141 ?_
                      obtain ⟨u143, e142, hf1⟩ := ob hf1
                      obtain ⟨t144, h145, e146, hf1⟩ := ob2 hf1
                      refine r_cV (ci := 11) (rest := []) (st2 := [.int t144]) C (s_X11_pour e146) mk_X11_pour rfl (ck_k e142) (by decide) im_X11_pour sl_X11_pour lk_L_44 rfl rfl rfl dL_law_445 (Nat.le_of_ble_eq_true rfl) ⟨Nat.le_of_ble_eq_true rfl, Nat.le_of_ble_eq_true rfl⟩ (bd_rc hbd hL) ?_
                      refine r_aload_n C dL_law_448 rfl ?_
                      refine r_sload_n C dL_law_449 rfl ?_
                      refine r_iload_n C dL_law_450 rfl ?_
                      refine r_iconst (v := 1) C dL_law_451 (by decide) ?_
                      refine r_iadd C dL_law_452 ?_
                      obtain ⟨t147, e148, hf1⟩ := ob hf1
                      refine r_xld C hX hXb dL_law_453 e148 ?_
                      refine r_sload_n C dL_law_454 rfl ?_
                      refine r_iload_n C dL_law_455 rfl ?_
                      refine r_iconst (v := 2) C dL_law_456 (by decide) ?_
                      refine r_iadd C dL_law_457 ?_
                      obtain ⟨t149, e150, hf1⟩ := ob hf1
                      refine r_xld C hX hXb dL_law_458 e150 ?_
                      refine r_sload_n C dL_law_459 rfl ?_
                      refine r_iload_n C dL_law_460 rfl ?_
                      refine r_iconst (v := 3) C dL_law_461 (by decide) ?_
                      refine r_iadd C dL_law_462 ?_
                      obtain ⟨t151, e152, hf1⟩ := ob hf1
                      refine r_xld C hX hXb dL_law_463 e152 ?_
                      refine r_sload_n C dL_law_464 rfl ?_
                      refine r_iload_n C dL_law_465 rfl ?_
                      refine r_iconst (v := 4) C dL_law_466 (by decide) ?_
                      refine r_iadd C dL_law_467 ?_
                      obtain ⟨t153, e154, hf1⟩ := ob hf1
                      refine r_xld C hX hXb dL_law_468 e154 ?_
                      refine r_sload_n C dL_law_469 rfl ?_
                      refine r_iload_n C dL_law_470 rfl ?_
                      refine r_iconst (v := 5) C dL_law_471 (by decide) ?_
                      refine r_iadd C dL_law_472 ?_
                      obtain ⟨t155, e156, hf1⟩ := ob hf1
                      refine r_xld C hX hXb dL_law_473 e156 ?_
                      obtain ⟨u158, e157, hf1⟩ := ob hf1
                      obtain ⟨t159, h160, e161, hf1⟩ := ob2 hf1
                      refine r_cV (ci := 12) (rest := [.int t144]) (st2 := [.int t159, .int t144]) C (s_X12_pour e161) mk_X12_pour rfl (ck_k e157) (by decide) im_X12_pour sl_X12_pour lk_L_48 rfl rfl rfl dL_law_474 (Nat.le_of_ble_eq_true rfl) ⟨Nat.le_of_ble_eq_true rfl, Nat.le_of_ble_eq_true rfl⟩ (bd_rc hbd hL) ?_
                      refine r_icmp_eq (tgt := 1466) C dL_law_477 (by decide) (fun c162 => ?_) (fun c162 => ?_)
                      · rw [if_pos c162] at hf1
                        obtain ⟨t163, e164, hf1⟩ := ob hf1
                        refine r_iinc (lv' := [(3, .int t163), (0, .retAddr 5), (1, .ref t1), (2, .ref t6)]) C dL_law_1466 rfl e164 (by decide) rfl ?_
                        refine r_goto (tgt := 18) C dL_law_1469 (by decide) ?_
                        obtain rfl := so hf1
                        refine r_subk [1, 2, 3, 0] (lv' := [(0, .retAddr 5), (1, .ref t1), (2, .ref t6), (3, .int t163)]) rfl ?_
                        exact ih18 t163 h160 cz sz (bd_same hbd cH hL e164) hk18
                      · rw [if_neg c162] at hf1
                        obtain rfl := so hf1
                        obtain rfl := so (show some (.inl h160 : (aH) ⊕ (aH)) = some y11 from hk18)
                        dsimp only at hf0
                        obtain rfl := so hf0
                        exact absurd ho (show ¬ ((0 : Int32) = 1) by decide)
                    · rw [if_neg c131] at hf1
                      by_cases c165 : (t15 &&& (63 : Int32)) = (7 : Int32)
                      · rw [if_pos c165] at hf1
                        refine r_tabIn (k := 7) (off := 449) (tgt := 482) C dL_law_33 c165 (by decide) (by decide) (by decide) (by decide) ?_
                        refine r_aload_n C dL_law_482 rfl ?_
                        refine r_sload_n C dL_law_483 rfl ?_
                        refine r_iload_n C dL_law_484 rfl ?_
                        refine r_iconst (v := 1) C dL_law_485 (by decide) ?_
                        refine r_iadd C dL_law_486 ?_
                        obtain ⟨t166, e167, hf1⟩ := ob hf1
                        refine r_xld C hX hXb dL_law_487 e167 ?_
                        refine r_sload_n C dL_law_488 rfl ?_
                        refine r_iload_n C dL_law_489 rfl ?_
                        refine r_iconst (v := 2) C dL_law_490 (by decide) ?_
                        refine r_iadd C dL_law_491 ?_
                        obtain ⟨t168, e169, hf1⟩ := ob hf1
                        refine r_xld C hX hXb dL_law_492 e169 ?_
                        refine r_sload_n C dL_law_493 rfl ?_
                        refine r_iload_n C dL_law_494 rfl ?_
                        refine r_iconst (v := 3) C dL_law_495 (by decide) ?_
                        refine r_iadd C dL_law_496 ?_
                        obtain ⟨t170, e171, hf1⟩ := ob hf1
                        refine r_xld C hX hXb dL_law_497 e171 ?_
                        refine r_sload_n C dL_law_498 rfl ?_
                        refine r_iload_n C dL_law_499 rfl ?_
                        refine r_iconst (v := 4) C dL_law_500 (by decide) ?_
                        refine r_iadd C dL_law_501 ?_
                        obtain ⟨t172, e173, hf1⟩ := ob hf1
                        refine r_xld C hX hXb dL_law_502 e173 ?_
                        refine r_sload_n C dL_law_503 rfl ?_
                        refine r_iload_n C dL_law_504 rfl ?_
                        refine r_iconst (v := 5) C dL_law_505 (by decide) ?_
                        refine r_iadd C dL_law_506 ?_
                        obtain ⟨t174, e175, hf1⟩ := ob hf1
                        refine r_xld C hX hXb dL_law_507 e175 ?_
                        obtain ⟨u177, e176, hf1⟩ := ob hf1
                        obtain ⟨t178, h179, e180, hf1⟩ := ob2 hf1
                        refine r_cV (ci := 11) (rest := []) (st2 := [.int t178]) C (s_X11_feed e180) mk_X11_feed rfl (ck_k e176) (by decide) im_X11_feed sl_X11_feed lk_L_49 rfl rfl rfl dL_law_508 (Nat.le_of_ble_eq_true rfl) ⟨Nat.le_of_ble_eq_true rfl, Nat.le_of_ble_eq_true rfl⟩ (bd_rc hbd hL) ?_
                        refine r_aload_n C dL_law_511 rfl ?_
                        refine r_sload_n C dL_law_512 rfl ?_
                        refine r_iload_n C dL_law_513 rfl ?_
                        refine r_iconst (v := 1) C dL_law_514 (by decide) ?_
                        refine r_iadd C dL_law_515 ?_
                        obtain ⟨t181, e182, hf1⟩ := ob hf1
                        refine r_xld C hX hXb dL_law_516 e182 ?_
                        refine r_sload_n C dL_law_517 rfl ?_
                        refine r_iload_n C dL_law_518 rfl ?_
                        refine r_iconst (v := 2) C dL_law_519 (by decide) ?_
                        refine r_iadd C dL_law_520 ?_
                        obtain ⟨t183, e184, hf1⟩ := ob hf1
                        refine r_xld C hX hXb dL_law_521 e184 ?_
                        refine r_sload_n C dL_law_522 rfl ?_
                        refine r_iload_n C dL_law_523 rfl ?_
                        refine r_iconst (v := 3) C dL_law_524 (by decide) ?_
                        refine r_iadd C dL_law_525 ?_
                        obtain ⟨t185, e186, hf1⟩ := ob hf1
                        refine r_xld C hX hXb dL_law_526 e186 ?_
                        refine r_sload_n C dL_law_527 rfl ?_
                        refine r_iload_n C dL_law_528 rfl ?_
                        refine r_iconst (v := 4) C dL_law_529 (by decide) ?_
                        refine r_iadd C dL_law_530 ?_
                        obtain ⟨t187, e188, hf1⟩ := ob hf1
                        refine r_xld C hX hXb dL_law_531 e188 ?_
                        refine r_sload_n C dL_law_532 rfl ?_
                        refine r_iload_n C dL_law_533 rfl ?_
                        refine r_iconst (v := 5) C dL_law_534 (by decide) ?_
                        refine r_iadd C dL_law_535 ?_
                        obtain ⟨t189, e190, hf1⟩ := ob hf1
                        refine r_xld C hX hXb dL_law_536 e190 ?_
                        obtain ⟨u192, e191, hf1⟩ := ob hf1
                        obtain ⟨t193, h194, e195, hf1⟩ := ob2 hf1
                        refine r_cV (ci := 12) (rest := [.int t178]) (st2 := [.int t193, .int t178]) C (s_X12_feed e195) mk_X12_feed rfl (ck_k e191) (by decide) im_X12_feed sl_X12_feed lk_L_53 rfl rfl rfl dL_law_537 (Nat.le_of_ble_eq_true rfl) ⟨Nat.le_of_ble_eq_true rfl, Nat.le_of_ble_eq_true rfl⟩ (bd_rc hbd hL) ?_
                        refine r_icmp_eq (tgt := 1466) C dL_law_540 (by decide) (fun c196 => ?_) (fun c196 => ?_)
                        · rw [if_pos c196] at hf1
                          obtain ⟨t197, e198, hf1⟩ := ob hf1
                          refine r_iinc (lv' := [(3, .int t197), (0, .retAddr 5), (1, .ref t1), (2, .ref t6)]) C dL_law_1466 rfl e198 (by decide) rfl ?_
                          refine r_goto (tgt := 18) C dL_law_1469 (by decide) ?_
                          obtain rfl := so hf1
                          refine r_subk [1, 2, 3, 0] (lv' := [(0, .retAddr 5), (1, .ref t1), (2, .ref t6), (3, .int t197)]) rfl ?_
                          exact ih18 t197 h194 cz sz (bd_same hbd cH hL e198) hk18
                        · rw [if_neg c196] at hf1
                          obtain rfl := so hf1
                          obtain rfl := so (show some (.inl h194 : (aH) ⊕ (aH)) = some y11 from hk18)
                          dsimp only at hf0
                          obtain rfl := so hf0
                          exact absurd ho (show ¬ ((0 : Int32) = 1) by decide)
                      · rw [if_neg c165] at hf1
                        by_cases c199 : (t15 &&& (63 : Int32)) = (8 : Int32)
                        · rw [if_pos c199] at hf1
                          refine r_tabIn (k := 8) (off := 512) (tgt := 545) C dL_law_33 c199 (by decide) (by decide) (by decide) (by decide) ?_
                          refine r_aload_n C dL_law_545 rfl ?_
                          refine r_sload_n C dL_law_546 rfl ?_
                          refine r_iload_n C dL_law_547 rfl ?_
                          refine r_iconst (v := 1) C dL_law_548 (by decide) ?_
                          refine r_iadd C dL_law_549 ?_
                          obtain ⟨t200, e201, hf1⟩ := ob hf1
                          refine r_xld C hX hXb dL_law_550 e201 ?_
                          obtain ⟨u203, e202, hf1⟩ := ob hf1
                          obtain ⟨t204, h205, e206, hf1⟩ := ob2 hf1
                          refine r_aV (ci := 11) (rest := []) (st2 := [.int t204]) C (s_X11_court e206) mk_X11_court rfl (ck_k e202) (by decide) im_X11_court sl_X11_court lk_L_54 rfl rfl rfl dL_law_551 (Nat.le_of_ble_eq_true rfl) ⟨Nat.le_of_ble_eq_true rfl, Nat.le_of_ble_eq_true rfl⟩ (bd_ra hbd cH hL) ?_
                          refine r_aload_n C dL_law_554 rfl ?_
                          refine r_sload_n C dL_law_555 rfl ?_
                          refine r_iload_n C dL_law_556 rfl ?_
                          refine r_iconst (v := 1) C dL_law_557 (by decide) ?_
                          refine r_iadd C dL_law_558 ?_
                          obtain ⟨t207, e208, hf1⟩ := ob hf1
                          refine r_xld C hX hXb dL_law_559 e208 ?_
                          obtain ⟨u210, e209, hf1⟩ := ob hf1
                          obtain ⟨t211, h212, e213, hf1⟩ := ob2 hf1
                          refine r_cV (ci := 12) (rest := [.int t204]) (st2 := [.int t211, .int t204]) C (s_X12_court e213) mk_X12_court rfl (ck_k e209) (by decide) im_X12_court sl_X12_court lk_L_58 rfl rfl rfl dL_law_560 (Nat.le_of_ble_eq_true rfl) ⟨Nat.le_of_ble_eq_true rfl, Nat.le_of_ble_eq_true rfl⟩ (bd_ra hbd cH hL) ?_
                          refine r_icmp_eq (tgt := 1466) C dL_law_563 (by decide) (fun c214 => ?_) (fun c214 => ?_)
                          · rw [if_pos c214] at hf1
                            obtain ⟨t215, e216, hf1⟩ := ob hf1
                            refine r_iinc (lv' := [(3, .int t215), (0, .retAddr 5), (1, .ref t1), (2, .ref t6)]) C dL_law_1466 rfl e216 (by decide) rfl ?_
                            refine r_goto (tgt := 18) C dL_law_1469 (by decide) ?_
                            obtain rfl := so hf1
                            refine r_subk [1, 2, 3, 0] (lv' := [(0, .retAddr 5), (1, .ref t1), (2, .ref t6), (3, .int t215)]) rfl ?_
                            exact ih18 t215 h212 (cz + 16) (sz + 13048) (bd_next hbd cH hL e216) hk18
                          · rw [if_neg c214] at hf1
                            obtain rfl := so hf1
                            obtain rfl := so (show some (.inl h212 : (aH) ⊕ (aH)) = some y11 from hk18)
                            dsimp only at hf0
                            obtain rfl := so hf0
                            exact absurd ho (show ¬ ((0 : Int32) = 1) by decide)
                        · rw [if_neg c199] at hf1
                          by_cases c217 : (t15 &&& (63 : Int32)) = (9 : Int32)
                          · rw [if_pos c217] at hf1
                            refine r_tabIn (k := 9) (off := 535) (tgt := 568) C dL_law_33 c217 (by decide) (by decide) (by decide) (by decide) ?_
                            refine r_aload_n C dL_law_568 rfl ?_
                            refine r_sload_n C dL_law_569 rfl ?_
                            refine r_iload_n C dL_law_570 rfl ?_
                            refine r_iconst (v := 1) C dL_law_571 (by decide) ?_
                            refine r_iadd C dL_law_572 ?_
                            obtain ⟨t218, e219, hf1⟩ := ob hf1
                            refine r_xld C hX hXb dL_law_573 e219 ?_
                            obtain ⟨u221, e220, hf1⟩ := ob hf1
                            obtain ⟨t222, h223, e224, hf1⟩ := ob2 hf1
                            refine r_cV (ci := 11) (rest := []) (st2 := [.int t222]) C (s_X11_plan e224) mk_X11_plan rfl (ck_k e220) (by decide) im_X11_plan sl_X11_plan lk_L_59 rfl rfl rfl dL_law_574 (Nat.le_of_ble_eq_true rfl) ⟨Nat.le_of_ble_eq_true rfl, Nat.le_of_ble_eq_true rfl⟩ (bd_rc hbd hL) ?_
                            refine r_aload_n C dL_law_577 rfl ?_
                            refine r_sload_n C dL_law_578 rfl ?_
                            refine r_iload_n C dL_law_579 rfl ?_
                            refine r_iconst (v := 1) C dL_law_580 (by decide) ?_
                            refine r_iadd C dL_law_581 ?_
                            obtain ⟨t225, e226, hf1⟩ := ob hf1
                            refine r_xld C hX hXb dL_law_582 e226 ?_
                            obtain ⟨u228, e227, hf1⟩ := ob hf1
                            obtain ⟨t229, h230, e231, hf1⟩ := ob2 hf1
                            refine r_cV (ci := 12) (rest := [.int t222]) (st2 := [.int t229, .int t222]) C (s_X12_plan e231) mk_X12_plan rfl (ck_k e227) (by decide) im_X12_plan sl_X12_plan lk_L_62 rfl rfl rfl dL_law_583 (Nat.le_of_ble_eq_true rfl) ⟨Nat.le_of_ble_eq_true rfl, Nat.le_of_ble_eq_true rfl⟩ (bd_rc hbd hL) ?_
                            refine r_icmp_eq (tgt := 1466) C dL_law_586 (by decide) (fun c232 => ?_) (fun c232 => ?_)
                            · rw [if_pos c232] at hf1
                              obtain ⟨t233, e234, hf1⟩ := ob hf1
                              refine r_iinc (lv' := [(3, .int t233), (0, .retAddr 5), (1, .ref t1), (2, .ref t6)]) C dL_law_1466 rfl e234 (by decide) rfl ?_
                              refine r_goto (tgt := 18) C dL_law_1469 (by decide) ?_
                              obtain rfl := so hf1
                              refine r_subk [1, 2, 3, 0] (lv' := [(0, .retAddr 5), (1, .ref t1), (2, .ref t6), (3, .int t233)]) rfl ?_
                              exact ih18 t233 h230 cz sz (bd_same hbd cH hL e234) hk18
                            · rw [if_neg c232] at hf1
                              obtain rfl := so hf1
                              obtain rfl := so (show some (.inl h230 : (aH) ⊕ (aH)) = some y11 from hk18)
                              dsimp only at hf0
                              obtain rfl := so hf0
                              exact absurd ho (show ¬ ((0 : Int32) = 1) by decide)
                          · rw [if_neg c217] at hf1
                            by_cases c235 : (t15 &&& (63 : Int32)) = (10 : Int32)
                            · rw [if_pos c235] at hf1
                              refine r_tabIn (k := 10) (off := 558) (tgt := 591) C dL_law_33 c235 (by decide) (by decide) (by decide) (by decide) ?_
                              refine r_aload_n C dL_law_591 rfl ?_
                              refine r_sload_n C dL_law_592 rfl ?_
                              refine r_iload_n C dL_law_593 rfl ?_
                              refine r_iconst (v := 1) C dL_law_594 (by decide) ?_
                              refine r_iadd C dL_law_595 ?_
                              obtain ⟨t236, e237, hf1⟩ := ob hf1
                              refine r_xld C hX hXb dL_law_596 e237 ?_
                              obtain ⟨u239, e238, hf1⟩ := ob hf1
                              obtain ⟨t240, e241, hf1⟩ := ob hf1
                              refine r_cV (ci := 11) (rest := []) (st2 := [.int t240]) C (s_X11_fault e241) mk_X11_fault rfl (ck_k e238) (by decide) im_X11_fault sl_X11_fault lk_L_63 rfl rfl rfl dL_law_597 (Nat.le_of_ble_eq_true rfl) ⟨Nat.le_of_ble_eq_true rfl, Nat.le_of_ble_eq_true rfl⟩ (bd_rc hbd hL) ?_
                              refine r_aload_n C dL_law_600 rfl ?_
                              refine r_sload_n C dL_law_601 rfl ?_
                              refine r_iload_n C dL_law_602 rfl ?_
                              refine r_iconst (v := 1) C dL_law_603 (by decide) ?_
                              refine r_iadd C dL_law_604 ?_
                              obtain ⟨t242, e243, hf1⟩ := ob hf1
                              refine r_xld C hX hXb dL_law_605 e243 ?_
                              obtain ⟨u245, e244, hf1⟩ := ob hf1
                              obtain ⟨t246, e247, hf1⟩ := ob hf1
                              refine r_cV (ci := 12) (rest := [.int t240]) (st2 := [.int t246, .int t240]) C (s_X12_fault e247) mk_X12_fault rfl (ck_k e244) (by decide) im_X12_fault sl_X12_fault lk_L_66 rfl rfl rfl dL_law_606 (Nat.le_of_ble_eq_true rfl) ⟨Nat.le_of_ble_eq_true rfl, Nat.le_of_ble_eq_true rfl⟩ (bd_rc hbd hL) ?_
                              refine r_icmp_eq (tgt := 1466) C dL_law_609 (by decide) (fun c248 => ?_) (fun c248 => ?_)
                              · rw [if_pos c248] at hf1
                                obtain ⟨t249, e250, hf1⟩ := ob hf1
                                refine r_iinc (lv' := [(3, .int t249), (0, .retAddr 5), (1, .ref t1), (2, .ref t6)]) C dL_law_1466 rfl e250 (by decide) rfl ?_
                                refine r_goto (tgt := 18) C dL_law_1469 (by decide) ?_
                                obtain rfl := so hf1
                                refine r_subk [1, 2, 3, 0] (lv' := [(0, .retAddr 5), (1, .ref t1), (2, .ref t6), (3, .int t249)]) rfl ?_
                                exact ih18 t249 h13 cz sz (bd_same hbd cH hL e250) hk18
                              · rw [if_neg c248] at hf1
                                obtain rfl := so hf1
                                obtain rfl := so (show some (.inl h13 : (aH) ⊕ (aH)) = some y11 from hk18)
                                dsimp only at hf0
                                obtain rfl := so hf0
                                exact absurd ho (show ¬ ((0 : Int32) = 1) by decide)
                            · rw [if_neg c235] at hf1
                              by_cases c251 : (t15 &&& (63 : Int32)) = (11 : Int32)
                              · rw [if_pos c251] at hf1
                                refine r_tabIn (k := 11) (off := 581) (tgt := 614) C dL_law_33 c251 (by decide) (by decide) (by decide) (by decide) ?_
                                refine r_aload_n C dL_law_614 rfl ?_
                                refine r_sload_n C dL_law_615 rfl ?_
                                refine r_iload_n C dL_law_616 rfl ?_
                                refine r_iconst (v := 1) C dL_law_617 (by decide) ?_
                                refine r_iadd C dL_law_618 ?_
                                obtain ⟨t252, e253, hf1⟩ := ob hf1
                                refine r_xld C hX hXb dL_law_619 e253 ?_
                                obtain ⟨u255, e254, hf1⟩ := ob hf1
                                obtain ⟨t256, h257, e258, hf1⟩ := ob2 hf1
                                refine r_cV (ci := 11) (rest := []) (st2 := [.int t256]) C (s_X11_told e258) mk_X11_told rfl (ck_k e254) (by decide) im_X11_told sl_X11_told lk_L_67 rfl rfl rfl dL_law_620 (Nat.le_of_ble_eq_true rfl) ⟨Nat.le_of_ble_eq_true rfl, Nat.le_of_ble_eq_true rfl⟩ (bd_rc hbd hL) ?_
                                refine r_aload_n C dL_law_623 rfl ?_
                                refine r_sload_n C dL_law_624 rfl ?_
                                refine r_iload_n C dL_law_625 rfl ?_
                                refine r_iconst (v := 1) C dL_law_626 (by decide) ?_
                                refine r_iadd C dL_law_627 ?_
                                obtain ⟨t259, e260, hf1⟩ := ob hf1
                                refine r_xld C hX hXb dL_law_628 e260 ?_
                                obtain ⟨u262, e261, hf1⟩ := ob hf1
                                obtain ⟨t263, h264, e265, hf1⟩ := ob2 hf1
                                refine r_cV (ci := 12) (rest := [.int t256]) (st2 := [.int t263, .int t256]) C (s_X12_told e265) mk_X12_told rfl (ck_k e261) (by decide) im_X12_told sl_X12_told lk_L_70 rfl rfl rfl dL_law_629 (Nat.le_of_ble_eq_true rfl) ⟨Nat.le_of_ble_eq_true rfl, Nat.le_of_ble_eq_true rfl⟩ (bd_rc hbd hL) ?_
                                refine r_icmp_eq (tgt := 1466) C dL_law_632 (by decide) (fun c266 => ?_) (fun c266 => ?_)
                                · rw [if_pos c266] at hf1
                                  obtain ⟨t267, e268, hf1⟩ := ob hf1
                                  refine r_iinc (lv' := [(3, .int t267), (0, .retAddr 5), (1, .ref t1), (2, .ref t6)]) C dL_law_1466 rfl e268 (by decide) rfl ?_
                                  refine r_goto (tgt := 18) C dL_law_1469 (by decide) ?_
                                  obtain rfl := so hf1
                                  refine r_subk [1, 2, 3, 0] (lv' := [(0, .retAddr 5), (1, .ref t1), (2, .ref t6), (3, .int t267)]) rfl ?_
                                  exact ih18 t267 h264 cz sz (bd_same hbd cH hL e268) hk18
                                · rw [if_neg c266] at hf1
                                  obtain rfl := so hf1
                                  obtain rfl := so (show some (.inl h264 : (aH) ⊕ (aH)) = some y11 from hk18)
                                  dsimp only at hf0
                                  obtain rfl := so hf0
                                  exact absurd ho (show ¬ ((0 : Int32) = 1) by decide)
                              · rw [if_neg c251] at hf1
                                by_cases c269 : (t15 &&& (63 : Int32)) = (12 : Int32)
                                · rw [if_pos c269] at hf1
                                  refine r_tabIn (k := 12) (off := 604) (tgt := 637) C dL_law_33 c269 (by decide) (by decide) (by decide) (by decide) ?_
                                  refine r_aload_n C dL_law_637 rfl ?_
                                  refine r_sload_n C dL_law_638 rfl ?_
                                  refine r_iload_n C dL_law_639 rfl ?_
                                  refine r_iconst (v := 1) C dL_law_640 (by decide) ?_
                                  refine r_iadd C dL_law_641 ?_
                                  obtain ⟨t270, e271, hf1⟩ := ob hf1
                                  refine r_xld C hX hXb dL_law_642 e271 ?_
                                  refine r_sload_n C dL_law_643 rfl ?_
                                  refine r_iload_n C dL_law_644 rfl ?_
                                  refine r_iconst (v := 2) C dL_law_645 (by decide) ?_
                                  refine r_iadd C dL_law_646 ?_
                                  obtain ⟨t272, e273, hf1⟩ := ob hf1
                                  refine r_xld C hX hXb dL_law_647 e273 ?_
                                  obtain ⟨u275, e274, hf1⟩ := ob hf1
                                  obtain ⟨t276, h277, e278, hf1⟩ := ob2 hf1
                                  refine r_cV (ci := 11) (rest := []) (st2 := [.int t276]) C (s_X11_value e278) mk_X11_value rfl (ck_k e274) (by decide) im_X11_value sl_X11_value lk_L_71 rfl rfl rfl dL_law_648 (Nat.le_of_ble_eq_true rfl) ⟨Nat.le_of_ble_eq_true rfl, Nat.le_of_ble_eq_true rfl⟩ (bd_rc hbd hL) ?_
                                  refine r_aload_n C dL_law_651 rfl ?_
                                  refine r_sload_n C dL_law_652 rfl ?_
                                  refine r_iload_n C dL_law_653 rfl ?_
                                  refine r_iconst (v := 1) C dL_law_654 (by decide) ?_
                                  refine r_iadd C dL_law_655 ?_
                                  obtain ⟨t279, e280, hf1⟩ := ob hf1
                                  refine r_xld C hX hXb dL_law_656 e280 ?_
                                  refine r_sload_n C dL_law_657 rfl ?_
                                  refine r_iload_n C dL_law_658 rfl ?_
                                  refine r_iconst (v := 2) C dL_law_659 (by decide) ?_
                                  refine r_iadd C dL_law_660 ?_
                                  obtain ⟨t281, e282, hf1⟩ := ob hf1
                                  refine r_xld C hX hXb dL_law_661 e282 ?_
                                  obtain ⟨u284, e283, hf1⟩ := ob hf1
                                  obtain ⟨t285, h286, e287, hf1⟩ := ob2 hf1
                                  refine r_cV (ci := 12) (rest := [.int t276]) (st2 := [.int t285, .int t276]) C (s_X12_value e287) mk_X12_value rfl (ck_k e283) (by decide) im_X12_value sl_X12_value lk_L_75 rfl rfl rfl dL_law_662 (Nat.le_of_ble_eq_true rfl) ⟨Nat.le_of_ble_eq_true rfl, Nat.le_of_ble_eq_true rfl⟩ (bd_rc hbd hL) ?_
                                  refine r_icmp_eq (tgt := 1466) C dL_law_665 (by decide) (fun c288 => ?_) (fun c288 => ?_)
                                  · rw [if_pos c288] at hf1
                                    obtain ⟨t289, e290, hf1⟩ := ob hf1
                                    refine r_iinc (lv' := [(3, .int t289), (0, .retAddr 5), (1, .ref t1), (2, .ref t6)]) C dL_law_1466 rfl e290 (by decide) rfl ?_
                                    refine r_goto (tgt := 18) C dL_law_1469 (by decide) ?_
                                    obtain rfl := so hf1
                                    refine r_subk [1, 2, 3, 0] (lv' := [(0, .retAddr 5), (1, .ref t1), (2, .ref t6), (3, .int t289)]) rfl ?_
                                    exact ih18 t289 h286 cz sz (bd_same hbd cH hL e290) hk18
                                  · rw [if_neg c288] at hf1
                                    obtain rfl := so hf1
                                    obtain rfl := so (show some (.inl h286 : (aH) ⊕ (aH)) = some y11 from hk18)
                                    dsimp only at hf0
                                    obtain rfl := so hf0
                                    exact absurd ho (show ¬ ((0 : Int32) = 1) by decide)
                                · rw [if_neg c269] at hf1
                                  by_cases c291 : (t15 &&& (63 : Int32)) = (13 : Int32)
                                  · rw [if_pos c291] at hf1
                                    refine r_tabIn (k := 13) (off := 637) (tgt := 670) C dL_law_33 c291 (by decide) (by decide) (by decide) (by decide) ?_
                                    refine r_aload_n C dL_law_670 rfl ?_
                                    refine r_sload_n C dL_law_671 rfl ?_
                                    refine r_iload_n C dL_law_672 rfl ?_
                                    refine r_iconst (v := 1) C dL_law_673 (by decide) ?_
                                    refine r_iadd C dL_law_674 ?_
                                    obtain ⟨t292, e293, hf1⟩ := ob hf1
                                    refine r_xld C hX hXb dL_law_675 e293 ?_
                                    refine r_sload_n C dL_law_676 rfl ?_
                                    refine r_iload_n C dL_law_677 rfl ?_
                                    refine r_iconst (v := 2) C dL_law_678 (by decide) ?_
                                    refine r_iadd C dL_law_679 ?_
                                    obtain ⟨t294, e295, hf1⟩ := ob hf1
                                    refine r_xld C hX hXb dL_law_680 e295 ?_
                                    obtain ⟨u297, e296, hf1⟩ := ob hf1
                                    obtain ⟨t298, h299, e300, hf1⟩ := ob2 hf1
                                    refine r_cV (ci := 11) (rest := []) (st2 := [.int t298]) C (s_X11_world e300) mk_X11_world rfl (ck_k e296) (by decide) im_X11_world sl_X11_world lk_L_76 rfl rfl rfl dL_law_681 (Nat.le_of_ble_eq_true rfl) ⟨Nat.le_of_ble_eq_true rfl, Nat.le_of_ble_eq_true rfl⟩ (bd_rc hbd hL) ?_
                                    refine r_aload_n C dL_law_684 rfl ?_
                                    refine r_sload_n C dL_law_685 rfl ?_
                                    refine r_iload_n C dL_law_686 rfl ?_
                                    refine r_iconst (v := 1) C dL_law_687 (by decide) ?_
                                    refine r_iadd C dL_law_688 ?_
                                    obtain ⟨t301, e302, hf1⟩ := ob hf1
                                    refine r_xld C hX hXb dL_law_689 e302 ?_
                                    refine r_sload_n C dL_law_690 rfl ?_
                                    refine r_iload_n C dL_law_691 rfl ?_
                                    refine r_iconst (v := 2) C dL_law_692 (by decide) ?_
                                    refine r_iadd C dL_law_693 ?_
                                    obtain ⟨t303, e304, hf1⟩ := ob hf1
                                    refine r_xld C hX hXb dL_law_694 e304 ?_
                                    obtain ⟨u306, e305, hf1⟩ := ob hf1
                                    obtain ⟨t307, h308, e309, hf1⟩ := ob2 hf1
                                    refine r_cV (ci := 12) (rest := [.int t298]) (st2 := [.int t307, .int t298]) C (s_X12_world e309) mk_X12_world rfl (ck_k e305) (by decide) im_X12_world sl_X12_world lk_L_79 rfl rfl rfl dL_law_695 (Nat.le_of_ble_eq_true rfl) ⟨Nat.le_of_ble_eq_true rfl, Nat.le_of_ble_eq_true rfl⟩ (bd_rc hbd hL) ?_
                                    refine r_icmp_eq (tgt := 1466) C dL_law_698 (by decide) (fun c310 => ?_) (fun c310 => ?_)
                                    · rw [if_pos c310] at hf1
                                      obtain ⟨t311, e312, hf1⟩ := ob hf1
                                      refine r_iinc (lv' := [(3, .int t311), (0, .retAddr 5), (1, .ref t1), (2, .ref t6)]) C dL_law_1466 rfl e312 (by decide) rfl ?_
                                      refine r_goto (tgt := 18) C dL_law_1469 (by decide) ?_
                                      obtain rfl := so hf1
                                      refine r_subk [1, 2, 3, 0] (lv' := [(0, .retAddr 5), (1, .ref t1), (2, .ref t6), (3, .int t311)]) rfl ?_
                                      exact ih18 t311 h308 cz sz (bd_same hbd cH hL e312) hk18
                                    · rw [if_neg c310] at hf1
                                      obtain rfl := so hf1
                                      obtain rfl := so (show some (.inl h308 : (aH) ⊕ (aH)) = some y11 from hk18)
                                      dsimp only at hf0
                                      obtain rfl := so hf0
                                      exact absurd ho (show ¬ ((0 : Int32) = 1) by decide)
                                  · rw [if_neg c291] at hf1
                                    by_cases c313 : (t15 &&& (63 : Int32)) = (14 : Int32)
                                    · rw [if_pos c313] at hf1
                                      refine r_tabIn (k := 14) (off := 670) (tgt := 703) C dL_law_33 c313 (by decide) (by decide) (by decide) (by decide) ?_
                                      refine r_aload_n C dL_law_703 rfl ?_
                                      refine r_sload_n C dL_law_704 rfl ?_
                                      refine r_iload_n C dL_law_705 rfl ?_
                                      refine r_iconst (v := 1) C dL_law_706 (by decide) ?_
                                      refine r_iadd C dL_law_707 ?_
                                      obtain ⟨t314, e315, hf1⟩ := ob hf1
                                      refine r_xld C hX hXb dL_law_708 e315 ?_
                                      obtain ⟨u317, e316, hf1⟩ := ob hf1
                                      obtain ⟨t318, h319, e320, hf1⟩ := ob2 hf1
                                      refine r_cV (ci := 11) (rest := []) (st2 := [.int t318]) C (s_X11_possible e320) mk_X11_possible rfl (ck_k e316) (by decide) im_X11_possible sl_X11_possible lk_L_80 rfl rfl rfl dL_law_709 (Nat.le_of_ble_eq_true rfl) ⟨Nat.le_of_ble_eq_true rfl, Nat.le_of_ble_eq_true rfl⟩ (bd_rc hbd hL) ?_
                                      refine r_aload_n C dL_law_712 rfl ?_
                                      refine r_sload_n C dL_law_713 rfl ?_
                                      refine r_iload_n C dL_law_714 rfl ?_
                                      refine r_iconst (v := 1) C dL_law_715 (by decide) ?_
                                      refine r_iadd C dL_law_716 ?_
                                      obtain ⟨t321, e322, hf1⟩ := ob hf1
                                      refine r_xld C hX hXb dL_law_717 e322 ?_
                                      obtain ⟨u324, e323, hf1⟩ := ob hf1
                                      obtain ⟨t325, h326, e327, hf1⟩ := ob2 hf1
                                      refine r_cV (ci := 12) (rest := [.int t318]) (st2 := [.int t325, .int t318]) C (s_X12_possible e327) mk_X12_possible rfl (ck_k e323) (by decide) im_X12_possible sl_X12_possible lk_L_83 rfl rfl rfl dL_law_718 (Nat.le_of_ble_eq_true rfl) ⟨Nat.le_of_ble_eq_true rfl, Nat.le_of_ble_eq_true rfl⟩ (bd_rc hbd hL) ?_
                                      refine r_icmp_eq (tgt := 1466) C dL_law_721 (by decide) (fun c328 => ?_) (fun c328 => ?_)
                                      · rw [if_pos c328] at hf1
                                        obtain ⟨t329, e330, hf1⟩ := ob hf1
                                        refine r_iinc (lv' := [(3, .int t329), (0, .retAddr 5), (1, .ref t1), (2, .ref t6)]) C dL_law_1466 rfl e330 (by decide) rfl ?_
                                        refine r_goto (tgt := 18) C dL_law_1469 (by decide) ?_
                                        obtain rfl := so hf1
                                        refine r_subk [1, 2, 3, 0] (lv' := [(0, .retAddr 5), (1, .ref t1), (2, .ref t6), (3, .int t329)]) rfl ?_
                                        exact ih18 t329 h326 cz sz (bd_same hbd cH hL e330) hk18
                                      · rw [if_neg c328] at hf1
                                        obtain rfl := so hf1
                                        obtain rfl := so (show some (.inl h326 : (aH) ⊕ (aH)) = some y11 from hk18)
                                        dsimp only at hf0
                                        obtain rfl := so hf0
                                        exact absurd ho (show ¬ ((0 : Int32) = 1) by decide)
                                    · rw [if_neg c313] at hf1
                                      by_cases c331 : (t15 &&& (63 : Int32)) = (15 : Int32)
                                      · rw [if_pos c331] at hf1
                                        refine r_tabIn (k := 15) (off := 693) (tgt := 726) C dL_law_33 c331 (by decide) (by decide) (by decide) (by decide) ?_
                                        refine r_aload_n C dL_law_726 rfl ?_
                                        refine r_sload_n C dL_law_727 rfl ?_
                                        refine r_iload_n C dL_law_728 rfl ?_
                                        refine r_iconst (v := 1) C dL_law_729 (by decide) ?_
                                        refine r_iadd C dL_law_730 ?_
                                        obtain ⟨t332, e333, hf1⟩ := ob hf1
                                        refine r_xld C hX hXb dL_law_731 e333 ?_
                                        refine r_sload_n C dL_law_732 rfl ?_
                                        refine r_iload_n C dL_law_733 rfl ?_
                                        refine r_iconst (v := 2) C dL_law_734 (by decide) ?_
                                        refine r_iadd C dL_law_735 ?_
                                        obtain ⟨t334, e335, hf1⟩ := ob hf1
                                        refine r_xld C hX hXb dL_law_736 e335 ?_
                                        obtain ⟨u337, e336, hf1⟩ := ob hf1
                                        obtain ⟨t338, h339, e340, hf1⟩ := ob2 hf1
                                        refine r_cV (ci := 11) (rest := []) (st2 := [.int t338]) C (s_X11_holds e340) mk_X11_holds rfl (ck_k e336) (by decide) im_X11_holds sl_X11_holds lk_L_84 rfl rfl rfl dL_law_737 (Nat.le_of_ble_eq_true rfl) ⟨Nat.le_of_ble_eq_true rfl, Nat.le_of_ble_eq_true rfl⟩ (bd_rc hbd hL) ?_
                                        refine r_aload_n C dL_law_740 rfl ?_
                                        refine r_sload_n C dL_law_741 rfl ?_
                                        refine r_iload_n C dL_law_742 rfl ?_
                                        refine r_iconst (v := 1) C dL_law_743 (by decide) ?_
                                        refine r_iadd C dL_law_744 ?_
                                        obtain ⟨t341, e342, hf1⟩ := ob hf1
                                        refine r_xld C hX hXb dL_law_745 e342 ?_
                                        refine r_sload_n C dL_law_746 rfl ?_
                                        refine r_iload_n C dL_law_747 rfl ?_
                                        refine r_iconst (v := 2) C dL_law_748 (by decide) ?_
                                        refine r_iadd C dL_law_749 ?_
                                        obtain ⟨t343, e344, hf1⟩ := ob hf1
                                        refine r_xld C hX hXb dL_law_750 e344 ?_
                                        obtain ⟨u346, e345, hf1⟩ := ob hf1
                                        obtain ⟨t347, h348, e349, hf1⟩ := ob2 hf1
                                        refine r_cV (ci := 12) (rest := [.int t338]) (st2 := [.int t347, .int t338]) C (s_X12_holds e349) mk_X12_holds rfl (ck_k e345) (by decide) im_X12_holds sl_X12_holds lk_L_87 rfl rfl rfl dL_law_751 (Nat.le_of_ble_eq_true rfl) ⟨Nat.le_of_ble_eq_true rfl, Nat.le_of_ble_eq_true rfl⟩ (bd_rc hbd hL) ?_
                                        refine r_icmp_eq (tgt := 1466) C dL_law_754 (by decide) (fun c350 => ?_) (fun c350 => ?_)
                                        · rw [if_pos c350] at hf1
                                          obtain ⟨t351, e352, hf1⟩ := ob hf1
                                          refine r_iinc (lv' := [(3, .int t351), (0, .retAddr 5), (1, .ref t1), (2, .ref t6)]) C dL_law_1466 rfl e352 (by decide) rfl ?_
                                          refine r_goto (tgt := 18) C dL_law_1469 (by decide) ?_
                                          obtain rfl := so hf1
                                          refine r_subk [1, 2, 3, 0] (lv' := [(0, .retAddr 5), (1, .ref t1), (2, .ref t6), (3, .int t351)]) rfl ?_
                                          exact ih18 t351 h348 cz sz (bd_same hbd cH hL e352) hk18
                                        · rw [if_neg c350] at hf1
                                          obtain rfl := so hf1
                                          obtain rfl := so (show some (.inl h348 : (aH) ⊕ (aH)) = some y11 from hk18)
                                          dsimp only at hf0
                                          obtain rfl := so hf0
                                          exact absurd ho (show ¬ ((0 : Int32) = 1) by decide)
                                      · rw [if_neg c331] at hf1
                                        by_cases c353 : (t15 &&& (63 : Int32)) = (16 : Int32)
                                        · rw [if_pos c353] at hf1
                                          refine r_tabIn (k := 16) (off := 726) (tgt := 759) C dL_law_33 c353 (by decide) (by decide) (by decide) (by decide) ?_
                                          refine r_aload_n C dL_law_759 rfl ?_
                                          refine r_sload_n C dL_law_760 rfl ?_
                                          refine r_iload_n C dL_law_761 rfl ?_
                                          refine r_iconst (v := 1) C dL_law_762 (by decide) ?_
                                          refine r_iadd C dL_law_763 ?_
                                          obtain ⟨t354, e355, hf1⟩ := ob hf1
                                          refine r_xld C hX hXb dL_law_764 e355 ?_
                                          obtain ⟨u357, e356, hf1⟩ := ob hf1
                                          obtain ⟨t358, h359, e360, hf1⟩ := ob2 hf1
                                          refine r_cV (ci := 11) (rest := []) (st2 := [.int t358]) C (s_X11_fee e360) mk_X11_fee rfl (ck_k e356) (by decide) im_X11_fee sl_X11_fee lk_L_88 rfl rfl rfl dL_law_765 (Nat.le_of_ble_eq_true rfl) ⟨Nat.le_of_ble_eq_true rfl, Nat.le_of_ble_eq_true rfl⟩ (bd_rc hbd hL) ?_
                                          refine r_aload_n C dL_law_768 rfl ?_
                                          refine r_sload_n C dL_law_769 rfl ?_
                                          refine r_iload_n C dL_law_770 rfl ?_
                                          refine r_iconst (v := 1) C dL_law_771 (by decide) ?_
                                          refine r_iadd C dL_law_772 ?_
                                          obtain ⟨t361, e362, hf1⟩ := ob hf1
                                          refine r_xld C hX hXb dL_law_773 e362 ?_
                                          obtain ⟨u364, e363, hf1⟩ := ob hf1
                                          obtain ⟨t365, h366, e367, hf1⟩ := ob2 hf1
                                          refine r_cV (ci := 12) (rest := [.int t358]) (st2 := [.int t365, .int t358]) C (s_X12_fee e367) mk_X12_fee rfl (ck_k e363) (by decide) im_X12_fee sl_X12_fee lk_L_91 rfl rfl rfl dL_law_774 (Nat.le_of_ble_eq_true rfl) ⟨Nat.le_of_ble_eq_true rfl, Nat.le_of_ble_eq_true rfl⟩ (bd_rc hbd hL) ?_
                                          refine r_icmp_eq (tgt := 1466) C dL_law_777 (by decide) (fun c368 => ?_) (fun c368 => ?_)
                                          · rw [if_pos c368] at hf1
                                            obtain ⟨t369, e370, hf1⟩ := ob hf1
                                            refine r_iinc (lv' := [(3, .int t369), (0, .retAddr 5), (1, .ref t1), (2, .ref t6)]) C dL_law_1466 rfl e370 (by decide) rfl ?_
                                            refine r_goto (tgt := 18) C dL_law_1469 (by decide) ?_
                                            obtain rfl := so hf1
                                            refine r_subk [1, 2, 3, 0] (lv' := [(0, .retAddr 5), (1, .ref t1), (2, .ref t6), (3, .int t369)]) rfl ?_
                                            exact ih18 t369 h366 cz sz (bd_same hbd cH hL e370) hk18
                                          · rw [if_neg c368] at hf1
                                            obtain rfl := so hf1
                                            obtain rfl := so (show some (.inl h366 : (aH) ⊕ (aH)) = some y11 from hk18)
                                            dsimp only at hf0
                                            obtain rfl := so hf0
                                            exact absurd ho (show ¬ ((0 : Int32) = 1) by decide)
                                        · rw [if_neg c353] at hf1
                                          by_cases c371 : (t15 &&& (63 : Int32)) = (17 : Int32)
                                          · rw [if_pos c371] at hf1
                                            refine r_tabIn (k := 17) (off := 749) (tgt := 782) C dL_law_33 c371 (by decide) (by decide) (by decide) (by decide) ?_
                                            refine r_aload_n C dL_law_782 rfl ?_
                                            refine r_sload_n C dL_law_783 rfl ?_
                                            refine r_iload_n C dL_law_784 rfl ?_
                                            refine r_iconst (v := 1) C dL_law_785 (by decide) ?_
                                            refine r_iadd C dL_law_786 ?_
                                            obtain ⟨t372, e373, hf1⟩ := ob hf1
                                            refine r_xld C hX hXb dL_law_787 e373 ?_
                                            refine r_sload_n C dL_law_788 rfl ?_
                                            refine r_iload_n C dL_law_789 rfl ?_
                                            refine r_iconst (v := 2) C dL_law_790 (by decide) ?_
                                            refine r_iadd C dL_law_791 ?_
                                            obtain ⟨t374, e375, hf1⟩ := ob hf1
                                            refine r_xld C hX hXb dL_law_792 e375 ?_
                                            obtain ⟨u377, e376, hf1⟩ := ob hf1
                                            obtain ⟨t378, h379, e380, hf1⟩ := ob2 hf1
                                            refine r_cV (ci := 11) (rest := []) (st2 := [.int t378]) C (s_X11_witness e380) mk_X11_witness rfl (ck_k e376) (by decide) im_X11_witness sl_X11_witness lk_L_92 rfl rfl rfl dL_law_793 (Nat.le_of_ble_eq_true rfl) ⟨Nat.le_of_ble_eq_true rfl, Nat.le_of_ble_eq_true rfl⟩ (bd_rc hbd hL) ?_
                                            refine r_aload_n C dL_law_796 rfl ?_
                                            refine r_sload_n C dL_law_797 rfl ?_
                                            refine r_iload_n C dL_law_798 rfl ?_
                                            refine r_iconst (v := 1) C dL_law_799 (by decide) ?_
                                            refine r_iadd C dL_law_800 ?_
                                            obtain ⟨t381, e382, hf1⟩ := ob hf1
                                            refine r_xld C hX hXb dL_law_801 e382 ?_
                                            refine r_sload_n C dL_law_802 rfl ?_
                                            refine r_iload_n C dL_law_803 rfl ?_
                                            refine r_iconst (v := 2) C dL_law_804 (by decide) ?_
                                            refine r_iadd C dL_law_805 ?_
                                            obtain ⟨t383, e384, hf1⟩ := ob hf1
                                            refine r_xld C hX hXb dL_law_806 e384 ?_
                                            obtain ⟨u386, e385, hf1⟩ := ob hf1
                                            obtain ⟨t387, h388, e389, hf1⟩ := ob2 hf1
                                            refine r_cV (ci := 12) (rest := [.int t378]) (st2 := [.int t387, .int t378]) C (s_X12_witness e389) mk_X12_witness rfl (ck_k e385) (by decide) im_X12_witness sl_X12_witness lk_L_95 rfl rfl rfl dL_law_807 (Nat.le_of_ble_eq_true rfl) ⟨Nat.le_of_ble_eq_true rfl, Nat.le_of_ble_eq_true rfl⟩ (bd_rc hbd hL) ?_
                                            refine r_icmp_eq (tgt := 1466) C dL_law_810 (by decide) (fun c390 => ?_) (fun c390 => ?_)
                                            · rw [if_pos c390] at hf1
                                              obtain ⟨t391, e392, hf1⟩ := ob hf1
                                              refine r_iinc (lv' := [(3, .int t391), (0, .retAddr 5), (1, .ref t1), (2, .ref t6)]) C dL_law_1466 rfl e392 (by decide) rfl ?_
                                              refine r_goto (tgt := 18) C dL_law_1469 (by decide) ?_
                                              obtain rfl := so hf1
                                              refine r_subk [1, 2, 3, 0] (lv' := [(0, .retAddr 5), (1, .ref t1), (2, .ref t6), (3, .int t391)]) rfl ?_
                                              exact ih18 t391 h388 cz sz (bd_same hbd cH hL e392) hk18
                                            · rw [if_neg c390] at hf1
                                              obtain rfl := so hf1
                                              obtain rfl := so (show some (.inl h388 : (aH) ⊕ (aH)) = some y11 from hk18)
                                              dsimp only at hf0
                                              obtain rfl := so hf0
                                              exact absurd ho (show ¬ ((0 : Int32) = 1) by decide)
                                          · rw [if_neg c371] at hf1
                                            by_cases c393 : (t15 &&& (63 : Int32)) = (18 : Int32)
                                            · rw [if_pos c393] at hf1
                                              refine r_tabIn (k := 18) (off := 782) (tgt := 815) C dL_law_33 c393 (by decide) (by decide) (by decide) (by decide) ?_
                                              refine r_aload_n C dL_law_815 rfl ?_
                                              refine r_sload_n C dL_law_816 rfl ?_
                                              refine r_iload_n C dL_law_817 rfl ?_
                                              refine r_iconst (v := 1) C dL_law_818 (by decide) ?_
                                              refine r_iadd C dL_law_819 ?_
                                              obtain ⟨t394, e395, hf1⟩ := ob hf1
                                              refine r_xld C hX hXb dL_law_820 e395 ?_
                                              refine r_sload_n C dL_law_821 rfl ?_
                                              refine r_iload_n C dL_law_822 rfl ?_
                                              refine r_iconst (v := 2) C dL_law_823 (by decide) ?_
                                              refine r_iadd C dL_law_824 ?_
                                              obtain ⟨t396, e397, hf1⟩ := ob hf1
                                              refine r_xld C hX hXb dL_law_825 e397 ?_
                                              refine r_sload_n C dL_law_826 rfl ?_
                                              refine r_iload_n C dL_law_827 rfl ?_
                                              refine r_iconst (v := 3) C dL_law_828 (by decide) ?_
                                              refine r_iadd C dL_law_829 ?_
                                              obtain ⟨t398, e399, hf1⟩ := ob hf1
                                              refine r_xld C hX hXb dL_law_830 e399 ?_
                                              refine r_sload_n C dL_law_831 rfl ?_
                                              refine r_iload_n C dL_law_832 rfl ?_
                                              refine r_iconst (v := 4) C dL_law_833 (by decide) ?_
                                              refine r_iadd C dL_law_834 ?_
                                              obtain ⟨t400, e401, hf1⟩ := ob hf1
                                              refine r_xld C hX hXb dL_law_835 e401 ?_
                                              obtain ⟨u403, e402, hf1⟩ := ob hf1
                                              obtain ⟨t404, h405, e406, hf1⟩ := ob2 hf1
                                              refine r_cV (ci := 11) (rest := []) (st2 := [.int t404]) C (s_X11_answer e406) mk_X11_answer rfl (ck_k e402) (by decide) im_X11_answer sl_X11_answer lk_L_96 rfl rfl rfl dL_law_836 (Nat.le_of_ble_eq_true rfl) ⟨Nat.le_of_ble_eq_true rfl, Nat.le_of_ble_eq_true rfl⟩ (bd_rc hbd hL) ?_
                                              refine r_aload_n C dL_law_839 rfl ?_
                                              refine r_sload_n C dL_law_840 rfl ?_
                                              refine r_iload_n C dL_law_841 rfl ?_
                                              refine r_iconst (v := 1) C dL_law_842 (by decide) ?_
                                              refine r_iadd C dL_law_843 ?_
                                              obtain ⟨t407, e408, hf1⟩ := ob hf1
                                              refine r_xld C hX hXb dL_law_844 e408 ?_
                                              refine r_sload_n C dL_law_845 rfl ?_
                                              refine r_iload_n C dL_law_846 rfl ?_
                                              refine r_iconst (v := 2) C dL_law_847 (by decide) ?_
                                              refine r_iadd C dL_law_848 ?_
                                              obtain ⟨t409, e410, hf1⟩ := ob hf1
                                              refine r_xld C hX hXb dL_law_849 e410 ?_
                                              refine r_sload_n C dL_law_850 rfl ?_
                                              refine r_iload_n C dL_law_851 rfl ?_
                                              refine r_iconst (v := 3) C dL_law_852 (by decide) ?_
                                              refine r_iadd C dL_law_853 ?_
                                              obtain ⟨t411, e412, hf1⟩ := ob hf1
                                              refine r_xld C hX hXb dL_law_854 e412 ?_
                                              refine r_sload_n C dL_law_855 rfl ?_
                                              refine r_iload_n C dL_law_856 rfl ?_
                                              refine r_iconst (v := 4) C dL_law_857 (by decide) ?_
                                              refine r_iadd C dL_law_858 ?_
                                              obtain ⟨t413, e414, hf1⟩ := ob hf1
                                              refine r_xld C hX hXb dL_law_859 e414 ?_
                                              obtain ⟨u416, e415, hf1⟩ := ob hf1
                                              obtain ⟨t417, h418, e419, hf1⟩ := ob2 hf1
                                              refine r_cV (ci := 12) (rest := [.int t404]) (st2 := [.int t417, .int t404]) C (s_X12_answer e419) mk_X12_answer rfl (ck_k e415) (by decide) im_X12_answer sl_X12_answer lk_L_100 rfl rfl rfl dL_law_860 (Nat.le_of_ble_eq_true rfl) ⟨Nat.le_of_ble_eq_true rfl, Nat.le_of_ble_eq_true rfl⟩ (bd_rc hbd hL) ?_
                                              refine r_icmp_eq (tgt := 1466) C dL_law_863 (by decide) (fun c420 => ?_) (fun c420 => ?_)
                                              · rw [if_pos c420] at hf1
                                                obtain ⟨t421, e422, hf1⟩ := ob hf1
                                                refine r_iinc (lv' := [(3, .int t421), (0, .retAddr 5), (1, .ref t1), (2, .ref t6)]) C dL_law_1466 rfl e422 (by decide) rfl ?_
                                                refine r_goto (tgt := 18) C dL_law_1469 (by decide) ?_
                                                obtain rfl := so hf1
                                                refine r_subk [1, 2, 3, 0] (lv' := [(0, .retAddr 5), (1, .ref t1), (2, .ref t6), (3, .int t421)]) rfl ?_
                                                exact ih18 t421 h418 cz sz (bd_same hbd cH hL e422) hk18
                                              · rw [if_neg c420] at hf1
                                                obtain rfl := so hf1
                                                obtain rfl := so (show some (.inl h418 : (aH) ⊕ (aH)) = some y11 from hk18)
                                                dsimp only at hf0
                                                obtain rfl := so hf0
                                                exact absurd ho (show ¬ ((0 : Int32) = 1) by decide)
                                            · rw [if_neg c393] at hf1
                                              by_cases c423 : (t15 &&& (63 : Int32)) = (19 : Int32)
                                              · rw [if_pos c423] at hf1
                                                refine r_tabIn (k := 19) (off := 835) (tgt := 868) C dL_law_33 c423 (by decide) (by decide) (by decide) (by decide) ?_
                                                refine r_aload_n C dL_law_868 rfl ?_
                                                refine r_sload_n C dL_law_869 rfl ?_
                                                refine r_iload_n C dL_law_870 rfl ?_
                                                refine r_iconst (v := 1) C dL_law_871 (by decide) ?_
                                                refine r_iadd C dL_law_872 ?_
                                                obtain ⟨t424, e425, hf1⟩ := ob hf1
                                                refine r_xld C hX hXb dL_law_873 e425 ?_
                                                refine r_sload_n C dL_law_874 rfl ?_
                                                refine r_iload_n C dL_law_875 rfl ?_
                                                refine r_iconst (v := 2) C dL_law_876 (by decide) ?_
                                                refine r_iadd C dL_law_877 ?_
                                                obtain ⟨t426, e427, hf1⟩ := ob hf1
                                                refine r_xld C hX hXb dL_law_878 e427 ?_
                                                refine r_sload_n C dL_law_879 rfl ?_
                                                refine r_iload_n C dL_law_880 rfl ?_
                                                refine r_iconst (v := 3) C dL_law_881 (by decide) ?_
                                                refine r_iadd C dL_law_882 ?_
                                                obtain ⟨t428, e429, hf1⟩ := ob hf1
                                                refine r_xld C hX hXb dL_law_883 e429 ?_
                                                obtain ⟨u431, e430, hf1⟩ := ob hf1
                                                obtain ⟨t432, h433, e434, hf1⟩ := ob2 hf1
                                                refine r_cV (ci := 11) (rest := []) (st2 := [.int t432]) C (s_X11_hear e434) mk_X11_hear rfl (ck_k e430) (by decide) im_X11_hear sl_X11_hear lk_L_101 rfl rfl rfl dL_law_884 (Nat.le_of_ble_eq_true rfl) ⟨Nat.le_of_ble_eq_true rfl, Nat.le_of_ble_eq_true rfl⟩ (bd_rc hbd hL) ?_
                                                refine r_aload_n C dL_law_887 rfl ?_
                                                refine r_sload_n C dL_law_888 rfl ?_
                                                refine r_iload_n C dL_law_889 rfl ?_
                                                refine r_iconst (v := 1) C dL_law_890 (by decide) ?_
                                                refine r_iadd C dL_law_891 ?_
                                                obtain ⟨t435, e436, hf1⟩ := ob hf1
                                                refine r_xld C hX hXb dL_law_892 e436 ?_
                                                refine r_sload_n C dL_law_893 rfl ?_
                                                refine r_iload_n C dL_law_894 rfl ?_
                                                refine r_iconst (v := 2) C dL_law_895 (by decide) ?_
                                                refine r_iadd C dL_law_896 ?_
                                                obtain ⟨t437, e438, hf1⟩ := ob hf1
                                                refine r_xld C hX hXb dL_law_897 e438 ?_
                                                refine r_sload_n C dL_law_898 rfl ?_
                                                refine r_iload_n C dL_law_899 rfl ?_
                                                refine r_iconst (v := 3) C dL_law_900 (by decide) ?_
                                                refine r_iadd C dL_law_901 ?_
                                                obtain ⟨t439, e440, hf1⟩ := ob hf1
                                                refine r_xld C hX hXb dL_law_902 e440 ?_
                                                obtain ⟨u442, e441, hf1⟩ := ob hf1
                                                obtain ⟨t443, h444, e445, hf1⟩ := ob2 hf1
                                                refine r_cV (ci := 12) (rest := [.int t432]) (st2 := [.int t443, .int t432]) C (s_X12_hear e445) mk_X12_hear rfl (ck_k e441) (by decide) im_X12_hear sl_X12_hear lk_L_104 rfl rfl rfl dL_law_903 (Nat.le_of_ble_eq_true rfl) ⟨Nat.le_of_ble_eq_true rfl, Nat.le_of_ble_eq_true rfl⟩ (bd_rc hbd hL) ?_
                                                refine r_icmp_eq (tgt := 1466) C dL_law_906 (by decide) (fun c446 => ?_) (fun c446 => ?_)
                                                · rw [if_pos c446] at hf1
                                                  obtain ⟨t447, e448, hf1⟩ := ob hf1
                                                  refine r_iinc (lv' := [(3, .int t447), (0, .retAddr 5), (1, .ref t1), (2, .ref t6)]) C dL_law_1466 rfl e448 (by decide) rfl ?_
                                                  refine r_goto (tgt := 18) C dL_law_1469 (by decide) ?_
                                                  obtain rfl := so hf1
                                                  refine r_subk [1, 2, 3, 0] (lv' := [(0, .retAddr 5), (1, .ref t1), (2, .ref t6), (3, .int t447)]) rfl ?_
                                                  exact ih18 t447 h444 cz sz (bd_same hbd cH hL e448) hk18
                                                · rw [if_neg c446] at hf1
                                                  obtain rfl := so hf1
                                                  obtain rfl := so (show some (.inl h444 : (aH) ⊕ (aH)) = some y11 from hk18)
                                                  dsimp only at hf0
                                                  obtain rfl := so hf0
                                                  exact absurd ho (show ¬ ((0 : Int32) = 1) by decide)
                                              · rw [if_neg c423] at hf1
                                                by_cases c449 : (t15 &&& (63 : Int32)) = (20 : Int32)
                                                · rw [if_pos c449] at hf1
                                                  refine r_tabIn (k := 20) (off := 878) (tgt := 911) C dL_law_33 c449 (by decide) (by decide) (by decide) (by decide) ?_
                                                  refine r_aload_n C dL_law_911 rfl ?_
                                                  obtain ⟨u451, e450, hf1⟩ := ob hf1
                                                  obtain ⟨t452, h453, e454, hf1⟩ := ob2 hf1
                                                  refine r_cV (ci := 11) (rest := []) (st2 := [.int t452]) C (s_X11_unsay e454) mk_X11_unsay rfl (ck_k e450) (by decide) im_X11_unsay sl_X11_unsay lk_L_105 rfl rfl rfl dL_law_912 (Nat.le_of_ble_eq_true rfl) ⟨Nat.le_of_ble_eq_true rfl, Nat.le_of_ble_eq_true rfl⟩ (bd_rc hbd hL) ?_
                                                  refine r_aload_n C dL_law_915 rfl ?_
                                                  obtain ⟨u456, e455, hf1⟩ := ob hf1
                                                  obtain ⟨t457, h458, e459, hf1⟩ := ob2 hf1
                                                  refine r_cV (ci := 12) (rest := [.int t452]) (st2 := [.int t457, .int t452]) C (s_X12_unsay e459) mk_X12_unsay rfl (ck_k e455) (by decide) im_X12_unsay sl_X12_unsay lk_L_108 rfl rfl rfl dL_law_916 (Nat.le_of_ble_eq_true rfl) ⟨Nat.le_of_ble_eq_true rfl, Nat.le_of_ble_eq_true rfl⟩ (bd_rc hbd hL) ?_
                                                  refine r_icmp_eq (tgt := 1466) C dL_law_919 (by decide) (fun c460 => ?_) (fun c460 => ?_)
                                                  · rw [if_pos c460] at hf1
                                                    obtain ⟨t461, e462, hf1⟩ := ob hf1
                                                    refine r_iinc (lv' := [(3, .int t461), (0, .retAddr 5), (1, .ref t1), (2, .ref t6)]) C dL_law_1466 rfl e462 (by decide) rfl ?_
                                                    refine r_goto (tgt := 18) C dL_law_1469 (by decide) ?_
                                                    obtain rfl := so hf1
                                                    refine r_subk [1, 2, 3, 0] (lv' := [(0, .retAddr 5), (1, .ref t1), (2, .ref t6), (3, .int t461)]) rfl ?_
                                                    exact ih18 t461 h458 cz sz (bd_same hbd cH hL e462) hk18
                                                  · rw [if_neg c460] at hf1
                                                    obtain rfl := so hf1
                                                    obtain rfl := so (show some (.inl h458 : (aH) ⊕ (aH)) = some y11 from hk18)
                                                    dsimp only at hf0
                                                    obtain rfl := so hf0
                                                    exact absurd ho (show ¬ ((0 : Int32) = 1) by decide)
                                                · rw [if_neg c449] at hf1
                                                  by_cases c463 : (t15 &&& (63 : Int32)) = (21 : Int32)
                                                  · rw [if_pos c463] at hf1
                                                    refine r_tabIn (k := 21) (off := 891) (tgt := 924) C dL_law_33 c463 (by decide) (by decide) (by decide) (by decide) ?_
                                                    refine r_aload_n C dL_law_924 rfl ?_
                                                    obtain ⟨u465, e464, hf1⟩ := ob hf1
                                                    obtain ⟨t466, h467, e468, hf1⟩ := ob2 hf1
                                                    refine r_cV (ci := 11) (rest := []) (st2 := [.int t466]) C (s_X11_nextDay e468) mk_X11_nextDay rfl (ck_k e464) (by decide) im_X11_nextDay sl_X11_nextDay lk_L_109 rfl rfl rfl dL_law_925 (Nat.le_of_ble_eq_true rfl) ⟨Nat.le_of_ble_eq_true rfl, Nat.le_of_ble_eq_true rfl⟩ (bd_rc hbd hL) ?_
                                                    refine r_aload_n C dL_law_928 rfl ?_
                                                    obtain ⟨u470, e469, hf1⟩ := ob hf1
                                                    obtain ⟨t471, h472, e473, hf1⟩ := ob2 hf1
                                                    refine r_cV (ci := 12) (rest := [.int t466]) (st2 := [.int t471, .int t466]) C (s_X12_nextDay e473) mk_X12_nextDay rfl (ck_k e469) (by decide) im_X12_nextDay sl_X12_nextDay lk_L_112 rfl rfl rfl dL_law_929 (Nat.le_of_ble_eq_true rfl) ⟨Nat.le_of_ble_eq_true rfl, Nat.le_of_ble_eq_true rfl⟩ (bd_rc hbd hL) ?_
                                                    refine r_icmp_eq (tgt := 1466) C dL_law_932 (by decide) (fun c474 => ?_) (fun c474 => ?_)
                                                    · rw [if_pos c474] at hf1
                                                      obtain ⟨t475, e476, hf1⟩ := ob hf1
                                                      refine r_iinc (lv' := [(3, .int t475), (0, .retAddr 5), (1, .ref t1), (2, .ref t6)]) C dL_law_1466 rfl e476 (by decide) rfl ?_
                                                      refine r_goto (tgt := 18) C dL_law_1469 (by decide) ?_
                                                      obtain rfl := so hf1
                                                      refine r_subk [1, 2, 3, 0] (lv' := [(0, .retAddr 5), (1, .ref t1), (2, .ref t6), (3, .int t475)]) rfl ?_
                                                      exact ih18 t475 h472 cz sz (bd_same hbd cH hL e476) hk18
                                                    · rw [if_neg c474] at hf1
                                                      obtain rfl := so hf1
                                                      obtain rfl := so (show some (.inl h472 : (aH) ⊕ (aH)) = some y11 from hk18)
                                                      dsimp only at hf0
                                                      obtain rfl := so hf0
                                                      exact absurd ho (show ¬ ((0 : Int32) = 1) by decide)
                                                  · rw [if_neg c463] at hf1
                                                    by_cases c477 : (t15 &&& (63 : Int32)) = (22 : Int32)
                                                    · rw [if_pos c477] at hf1
                                                      refine r_tabIn (k := 22) (off := 904) (tgt := 937) C dL_law_33 c477 (by decide) (by decide) (by decide) (by decide) ?_
                                                      refine r_aload_n C dL_law_937 rfl ?_
                                                      refine r_sload_n C dL_law_938 rfl ?_
                                                      refine r_iload_n C dL_law_939 rfl ?_
                                                      refine r_iconst (v := 1) C dL_law_940 (by decide) ?_
                                                      refine r_iadd C dL_law_941 ?_
                                                      obtain ⟨t478, e479, hf1⟩ := ob hf1
                                                      refine r_xld C hX hXb dL_law_942 e479 ?_
                                                      refine r_sload_n C dL_law_943 rfl ?_
                                                      refine r_iload_n C dL_law_944 rfl ?_
                                                      refine r_iconst (v := 2) C dL_law_945 (by decide) ?_
                                                      refine r_iadd C dL_law_946 ?_
                                                      obtain ⟨t480, e481, hf1⟩ := ob hf1
                                                      refine r_xld C hX hXb dL_law_947 e481 ?_
                                                      obtain ⟨u483, e482, hf1⟩ := ob hf1
                                                      obtain ⟨t484, h485, e486, hf1⟩ := ob2 hf1
                                                      refine r_cV (ci := 11) (rest := []) (st2 := [.int t484]) C (s_X11_heard e486) mk_X11_heard rfl (ck_k e482) (by decide) im_X11_heard sl_X11_heard lk_L_113 rfl rfl rfl dL_law_948 (Nat.le_of_ble_eq_true rfl) ⟨Nat.le_of_ble_eq_true rfl, Nat.le_of_ble_eq_true rfl⟩ (bd_rc hbd hL) ?_
                                                      refine r_aload_n C dL_law_951 rfl ?_
                                                      refine r_sload_n C dL_law_952 rfl ?_
                                                      refine r_iload_n C dL_law_953 rfl ?_
                                                      refine r_iconst (v := 1) C dL_law_954 (by decide) ?_
                                                      refine r_iadd C dL_law_955 ?_
                                                      obtain ⟨t487, e488, hf1⟩ := ob hf1
                                                      refine r_xld C hX hXb dL_law_956 e488 ?_
                                                      refine r_sload_n C dL_law_957 rfl ?_
                                                      refine r_iload_n C dL_law_958 rfl ?_
                                                      refine r_iconst (v := 2) C dL_law_959 (by decide) ?_
                                                      refine r_iadd C dL_law_960 ?_
                                                      obtain ⟨t489, e490, hf1⟩ := ob hf1
                                                      refine r_xld C hX hXb dL_law_961 e490 ?_
                                                      obtain ⟨u492, e491, hf1⟩ := ob hf1
                                                      obtain ⟨t493, h494, e495, hf1⟩ := ob2 hf1
                                                      refine r_cV (ci := 12) (rest := [.int t484]) (st2 := [.int t493, .int t484]) C (s_X12_heard e495) mk_X12_heard rfl (ck_k e491) (by decide) im_X12_heard sl_X12_heard lk_L_116 rfl rfl rfl dL_law_962 (Nat.le_of_ble_eq_true rfl) ⟨Nat.le_of_ble_eq_true rfl, Nat.le_of_ble_eq_true rfl⟩ (bd_rc hbd hL) ?_
                                                      refine r_icmp_eq (tgt := 1466) C dL_law_965 (by decide) (fun c496 => ?_) (fun c496 => ?_)
                                                      · rw [if_pos c496] at hf1
                                                        obtain ⟨t497, e498, hf1⟩ := ob hf1
                                                        refine r_iinc (lv' := [(3, .int t497), (0, .retAddr 5), (1, .ref t1), (2, .ref t6)]) C dL_law_1466 rfl e498 (by decide) rfl ?_
                                                        refine r_goto (tgt := 18) C dL_law_1469 (by decide) ?_
                                                        obtain rfl := so hf1
                                                        refine r_subk [1, 2, 3, 0] (lv' := [(0, .retAddr 5), (1, .ref t1), (2, .ref t6), (3, .int t497)]) rfl ?_
                                                        exact ih18 t497 h494 cz sz (bd_same hbd cH hL e498) hk18
                                                      · rw [if_neg c496] at hf1
                                                        obtain rfl := so hf1
                                                        obtain rfl := so (show some (.inl h494 : (aH) ⊕ (aH)) = some y11 from hk18)
                                                        dsimp only at hf0
                                                        obtain rfl := so hf0
                                                        exact absurd ho (show ¬ ((0 : Int32) = 1) by decide)
                                                    · rw [if_neg c477] at hf1
                                                      by_cases c499 : (t15 &&& (63 : Int32)) = (23 : Int32)
                                                      · rw [if_pos c499] at hf1
                                                        refine r_tabIn (k := 23) (off := 937) (tgt := 970) C dL_law_33 c499 (by decide) (by decide) (by decide) (by decide) ?_
                                                        refine r_aload_n C dL_law_970 rfl ?_
                                                        obtain ⟨u501, e500, hf1⟩ := ob hf1
                                                        obtain ⟨t502, h503, e504, hf1⟩ := ob2 hf1
                                                        refine r_cV (ci := 11) (rest := []) (st2 := [.int t502]) C (s_X11_left e504) mk_X11_left rfl (ck_k e500) (by decide) im_X11_left sl_X11_left lk_L_117 rfl rfl rfl dL_law_971 (Nat.le_of_ble_eq_true rfl) ⟨Nat.le_of_ble_eq_true rfl, Nat.le_of_ble_eq_true rfl⟩ (bd_rc hbd hL) ?_
                                                        refine r_aload_n C dL_law_974 rfl ?_
                                                        obtain ⟨u506, e505, hf1⟩ := ob hf1
                                                        obtain ⟨t507, h508, e509, hf1⟩ := ob2 hf1
                                                        refine r_cV (ci := 12) (rest := [.int t502]) (st2 := [.int t507, .int t502]) C (s_X12_left e509) mk_X12_left rfl (ck_k e505) (by decide) im_X12_left sl_X12_left lk_L_120 rfl rfl rfl dL_law_975 (Nat.le_of_ble_eq_true rfl) ⟨Nat.le_of_ble_eq_true rfl, Nat.le_of_ble_eq_true rfl⟩ (bd_rc hbd hL) ?_
                                                        refine r_icmp_eq (tgt := 1466) C dL_law_978 (by decide) (fun c510 => ?_) (fun c510 => ?_)
                                                        · rw [if_pos c510] at hf1
                                                          obtain ⟨t511, e512, hf1⟩ := ob hf1
                                                          refine r_iinc (lv' := [(3, .int t511), (0, .retAddr 5), (1, .ref t1), (2, .ref t6)]) C dL_law_1466 rfl e512 (by decide) rfl ?_
                                                          refine r_goto (tgt := 18) C dL_law_1469 (by decide) ?_
                                                          obtain rfl := so hf1
                                                          refine r_subk [1, 2, 3, 0] (lv' := [(0, .retAddr 5), (1, .ref t1), (2, .ref t6), (3, .int t511)]) rfl ?_
                                                          exact ih18 t511 h508 cz sz (bd_same hbd cH hL e512) hk18
                                                        · rw [if_neg c510] at hf1
                                                          obtain rfl := so hf1
                                                          obtain rfl := so (show some (.inl h508 : (aH) ⊕ (aH)) = some y11 from hk18)
                                                          dsimp only at hf0
                                                          obtain rfl := so hf0
                                                          exact absurd ho (show ¬ ((0 : Int32) = 1) by decide)
                                                      · rw [if_neg c499] at hf1
                                                        by_cases c513 : (t15 &&& (63 : Int32)) = (24 : Int32)
                                                        · rw [if_pos c513] at hf1
                                                          refine r_tabIn (k := 24) (off := 950) (tgt := 983) C dL_law_33 c513 (by decide) (by decide) (by decide) (by decide) ?_
                                                          refine r_aload_n C dL_law_983 rfl ?_
                                                          refine r_sload_n C dL_law_984 rfl ?_
                                                          refine r_iload_n C dL_law_985 rfl ?_
                                                          refine r_iconst (v := 1) C dL_law_986 (by decide) ?_
                                                          refine r_iadd C dL_law_987 ?_
                                                          obtain ⟨t514, e515, hf1⟩ := ob hf1
                                                          refine r_xld C hX hXb dL_law_988 e515 ?_
                                                          obtain ⟨u517, e516, hf1⟩ := ob hf1
                                                          obtain ⟨t518, h519, e520, hf1⟩ := ob2 hf1
                                                          refine r_cV (ci := 11) (rest := []) (st2 := [.int t518]) C (s_X11_isLeft e520) mk_X11_isLeft rfl (ck_k e516) (by decide) im_X11_isLeft sl_X11_isLeft lk_L_121 rfl rfl rfl dL_law_989 (Nat.le_of_ble_eq_true rfl) ⟨Nat.le_of_ble_eq_true rfl, Nat.le_of_ble_eq_true rfl⟩ (bd_rc hbd hL) ?_
                                                          refine r_aload_n C dL_law_992 rfl ?_
                                                          refine r_sload_n C dL_law_993 rfl ?_
                                                          refine r_iload_n C dL_law_994 rfl ?_
                                                          refine r_iconst (v := 1) C dL_law_995 (by decide) ?_
                                                          refine r_iadd C dL_law_996 ?_
                                                          obtain ⟨t521, e522, hf1⟩ := ob hf1
                                                          refine r_xld C hX hXb dL_law_997 e522 ?_
                                                          obtain ⟨u524, e523, hf1⟩ := ob hf1
                                                          obtain ⟨t525, h526, e527, hf1⟩ := ob2 hf1
                                                          refine r_cV (ci := 12) (rest := [.int t518]) (st2 := [.int t525, .int t518]) C (s_X12_isLeft e527) mk_X12_isLeft rfl (ck_k e523) (by decide) im_X12_isLeft sl_X12_isLeft lk_L_124 rfl rfl rfl dL_law_998 (Nat.le_of_ble_eq_true rfl) ⟨Nat.le_of_ble_eq_true rfl, Nat.le_of_ble_eq_true rfl⟩ (bd_rc hbd hL) ?_
                                                          refine r_icmp_eq (tgt := 1466) C dL_law_1001 (by decide) (fun c528 => ?_) (fun c528 => ?_)
                                                          · rw [if_pos c528] at hf1
                                                            obtain ⟨t529, e530, hf1⟩ := ob hf1
                                                            refine r_iinc (lv' := [(3, .int t529), (0, .retAddr 5), (1, .ref t1), (2, .ref t6)]) C dL_law_1466 rfl e530 (by decide) rfl ?_
                                                            refine r_goto (tgt := 18) C dL_law_1469 (by decide) ?_
                                                            obtain rfl := so hf1
                                                            refine r_subk [1, 2, 3, 0] (lv' := [(0, .retAddr 5), (1, .ref t1), (2, .ref t6), (3, .int t529)]) rfl ?_
                                                            exact ih18 t529 h526 cz sz (bd_same hbd cH hL e530) hk18
                                                          · rw [if_neg c528] at hf1
                                                            obtain rfl := so hf1
                                                            obtain rfl := so (show some (.inl h526 : (aH) ⊕ (aH)) = some y11 from hk18)
                                                            dsimp only at hf0
                                                            obtain rfl := so hf0
                                                            exact absurd ho (show ¬ ((0 : Int32) = 1) by decide)
                                                        · rw [if_neg c513] at hf1
                                                          by_cases c531 : (t15 &&& (63 : Int32)) = (25 : Int32)
                                                          · rw [if_pos c531] at hf1
                                                            refine r_tabIn (k := 25) (off := 973) (tgt := 1006) C dL_law_33 c531 (by decide) (by decide) (by decide) (by decide) ?_
                                                            refine r_aload_n C dL_law_1006 rfl ?_
                                                            refine r_sload_n C dL_law_1007 rfl ?_
                                                            refine r_iload_n C dL_law_1008 rfl ?_
                                                            refine r_iconst (v := 1) C dL_law_1009 (by decide) ?_
                                                            refine r_iadd C dL_law_1010 ?_
                                                            obtain ⟨t532, e533, hf1⟩ := ob hf1
                                                            refine r_xld C hX hXb dL_law_1011 e533 ?_
                                                            refine r_sload_n C dL_law_1012 rfl ?_
                                                            refine r_iload_n C dL_law_1013 rfl ?_
                                                            refine r_iconst (v := 2) C dL_law_1014 (by decide) ?_
                                                            refine r_iadd C dL_law_1015 ?_
                                                            obtain ⟨t534, e535, hf1⟩ := ob hf1
                                                            refine r_xld C hX hXb dL_law_1016 e535 ?_
                                                            refine r_sload_n C dL_law_1017 rfl ?_
                                                            refine r_iload_n C dL_law_1018 rfl ?_
                                                            refine r_iconst (v := 3) C dL_law_1019 (by decide) ?_
                                                            refine r_iadd C dL_law_1020 ?_
                                                            obtain ⟨t536, e537, hf1⟩ := ob hf1
                                                            refine r_xld C hX hXb dL_law_1021 e537 ?_
                                                            obtain ⟨u539, e538, hf1⟩ := ob hf1
                                                            obtain ⟨t540, h541, e542, hf1⟩ := ob2 hf1
                                                            refine r_cV (ci := 11) (rest := []) (st2 := [.int t540]) C (s_X11_fits e542) mk_X11_fits rfl (ck_k e538) (by decide) im_X11_fits sl_X11_fits lk_L_125 rfl rfl rfl dL_law_1022 (Nat.le_of_ble_eq_true rfl) ⟨Nat.le_of_ble_eq_true rfl, Nat.le_of_ble_eq_true rfl⟩ (bd_rc hbd hL) ?_
                                                            refine r_aload_n C dL_law_1025 rfl ?_
                                                            refine r_sload_n C dL_law_1026 rfl ?_
                                                            refine r_iload_n C dL_law_1027 rfl ?_
                                                            refine r_iconst (v := 1) C dL_law_1028 (by decide) ?_
                                                            refine r_iadd C dL_law_1029 ?_
                                                            obtain ⟨t543, e544, hf1⟩ := ob hf1
                                                            refine r_xld C hX hXb dL_law_1030 e544 ?_
                                                            refine r_sload_n C dL_law_1031 rfl ?_
                                                            refine r_iload_n C dL_law_1032 rfl ?_
                                                            refine r_iconst (v := 2) C dL_law_1033 (by decide) ?_
                                                            refine r_iadd C dL_law_1034 ?_
                                                            obtain ⟨t545, e546, hf1⟩ := ob hf1
                                                            refine r_xld C hX hXb dL_law_1035 e546 ?_
                                                            refine r_sload_n C dL_law_1036 rfl ?_
                                                            refine r_iload_n C dL_law_1037 rfl ?_
                                                            refine r_iconst (v := 3) C dL_law_1038 (by decide) ?_
                                                            refine r_iadd C dL_law_1039 ?_
                                                            obtain ⟨t547, e548, hf1⟩ := ob hf1
                                                            refine r_xld C hX hXb dL_law_1040 e548 ?_
                                                            obtain ⟨u550, e549, hf1⟩ := ob hf1
                                                            obtain ⟨t551, h552, e553, hf1⟩ := ob2 hf1
                                                            refine r_cV (ci := 12) (rest := [.int t540]) (st2 := [.int t551, .int t540]) C (s_X12_fits e553) mk_X12_fits rfl (ck_k e549) (by decide) im_X12_fits sl_X12_fits lk_L_129 rfl rfl rfl dL_law_1041 (Nat.le_of_ble_eq_true rfl) ⟨Nat.le_of_ble_eq_true rfl, Nat.le_of_ble_eq_true rfl⟩ (bd_rc hbd hL) ?_
                                                            refine r_icmp_eq (tgt := 1466) C dL_law_1044 (by decide) (fun c554 => ?_) (fun c554 => ?_)
                                                            · rw [if_pos c554] at hf1
                                                              obtain ⟨t555, e556, hf1⟩ := ob hf1
                                                              refine r_iinc (lv' := [(3, .int t555), (0, .retAddr 5), (1, .ref t1), (2, .ref t6)]) C dL_law_1466 rfl e556 (by decide) rfl ?_
                                                              refine r_goto (tgt := 18) C dL_law_1469 (by decide) ?_
                                                              obtain rfl := so hf1
                                                              refine r_subk [1, 2, 3, 0] (lv' := [(0, .retAddr 5), (1, .ref t1), (2, .ref t6), (3, .int t555)]) rfl ?_
                                                              exact ih18 t555 h552 cz sz (bd_same hbd cH hL e556) hk18
                                                            · rw [if_neg c554] at hf1
                                                              obtain rfl := so hf1
                                                              obtain rfl := so (show some (.inl h552 : (aH) ⊕ (aH)) = some y11 from hk18)
                                                              dsimp only at hf0
                                                              obtain rfl := so hf0
                                                              exact absurd ho (show ¬ ((0 : Int32) = 1) by decide)
                                                          · rw [if_neg c531] at hf1
                                                            by_cases c557 : (t15 &&& (63 : Int32)) = (26 : Int32)
                                                            · rw [if_pos c557] at hf1
                                                              refine r_tabIn (k := 26) (off := 1016) (tgt := 1049) C dL_law_33 c557 (by decide) (by decide) (by decide) (by decide) ?_
                                                              refine r_aload_n C dL_law_1049 rfl ?_
                                                              refine r_sload_n C dL_law_1050 rfl ?_
                                                              refine r_iload_n C dL_law_1051 rfl ?_
                                                              refine r_iconst (v := 1) C dL_law_1052 (by decide) ?_
                                                              refine r_iadd C dL_law_1053 ?_
                                                              obtain ⟨t558, e559, hf1⟩ := ob hf1
                                                              refine r_xld C hX hXb dL_law_1054 e559 ?_
                                                              obtain ⟨u561, e560, hf1⟩ := ob hf1
                                                              obtain ⟨t562, h563, e564, hf1⟩ := ob2 hf1
                                                              refine r_cV (ci := 11) (rest := []) (st2 := [.int t562]) C (s_X11_sure e564) mk_X11_sure rfl (ck_k e560) (by decide) im_X11_sure sl_X11_sure lk_L_130 rfl rfl rfl dL_law_1055 (Nat.le_of_ble_eq_true rfl) ⟨Nat.le_of_ble_eq_true rfl, Nat.le_of_ble_eq_true rfl⟩ (bd_rc hbd hL) ?_
                                                              refine r_aload_n C dL_law_1058 rfl ?_
                                                              refine r_sload_n C dL_law_1059 rfl ?_
                                                              refine r_iload_n C dL_law_1060 rfl ?_
                                                              refine r_iconst (v := 1) C dL_law_1061 (by decide) ?_
                                                              refine r_iadd C dL_law_1062 ?_
                                                              obtain ⟨t565, e566, hf1⟩ := ob hf1
                                                              refine r_xld C hX hXb dL_law_1063 e566 ?_
                                                              obtain ⟨u568, e567, hf1⟩ := ob hf1
                                                              obtain ⟨t569, h570, e571, hf1⟩ := ob2 hf1
                                                              refine r_cV (ci := 12) (rest := [.int t562]) (st2 := [.int t569, .int t562]) C (s_X12_sure e571) mk_X12_sure rfl (ck_k e567) (by decide) im_X12_sure sl_X12_sure lk_L_133 rfl rfl rfl dL_law_1064 (Nat.le_of_ble_eq_true rfl) ⟨Nat.le_of_ble_eq_true rfl, Nat.le_of_ble_eq_true rfl⟩ (bd_rc hbd hL) ?_
                                                              refine r_icmp_eq (tgt := 1466) C dL_law_1067 (by decide) (fun c572 => ?_) (fun c572 => ?_)
                                                              · rw [if_pos c572] at hf1
                                                                obtain ⟨t573, e574, hf1⟩ := ob hf1
                                                                refine r_iinc (lv' := [(3, .int t573), (0, .retAddr 5), (1, .ref t1), (2, .ref t6)]) C dL_law_1466 rfl e574 (by decide) rfl ?_
                                                                refine r_goto (tgt := 18) C dL_law_1469 (by decide) ?_
                                                                obtain rfl := so hf1
                                                                refine r_subk [1, 2, 3, 0] (lv' := [(0, .retAddr 5), (1, .ref t1), (2, .ref t6), (3, .int t573)]) rfl ?_
                                                                exact ih18 t573 h570 cz sz (bd_same hbd cH hL e574) hk18
                                                              · rw [if_neg c572] at hf1
                                                                obtain rfl := so hf1
                                                                obtain rfl := so (show some (.inl h570 : (aH) ⊕ (aH)) = some y11 from hk18)
                                                                dsimp only at hf0
                                                                obtain rfl := so hf0
                                                                exact absurd ho (show ¬ ((0 : Int32) = 1) by decide)
                                                            · rw [if_neg c557] at hf1
                                                              by_cases c575 : (t15 &&& (63 : Int32)) = (27 : Int32)
                                                              · rw [if_pos c575] at hf1
                                                                refine r_tabIn (k := 27) (off := 1039) (tgt := 1072) C dL_law_33 c575 (by decide) (by decide) (by decide) (by decide) ?_
                                                                refine r_aload_n C dL_law_1072 rfl ?_
                                                                refine r_sload_n C dL_law_1073 rfl ?_
                                                                refine r_iload_n C dL_law_1074 rfl ?_
                                                                refine r_iconst (v := 1) C dL_law_1075 (by decide) ?_
                                                                refine r_iadd C dL_law_1076 ?_
                                                                obtain ⟨t576, e577, hf1⟩ := ob hf1
                                                                refine r_xld C hX hXb dL_law_1077 e577 ?_
                                                                obtain ⟨u579, e578, hf1⟩ := ob hf1
                                                                obtain ⟨t580, h581, e582, hf1⟩ := ob2 hf1
                                                                refine r_cV (ci := 11) (rest := []) (st2 := [.int t580]) C (s_X11_chance e582) mk_X11_chance rfl (ck_k e578) (by decide) im_X11_chance sl_X11_chance lk_L_134 rfl rfl rfl dL_law_1078 (Nat.le_of_ble_eq_true rfl) ⟨Nat.le_of_ble_eq_true rfl, Nat.le_of_ble_eq_true rfl⟩ (bd_rc hbd hL) ?_
                                                                refine r_aload_n C dL_law_1081 rfl ?_
                                                                refine r_sload_n C dL_law_1082 rfl ?_
                                                                refine r_iload_n C dL_law_1083 rfl ?_
                                                                refine r_iconst (v := 1) C dL_law_1084 (by decide) ?_
                                                                refine r_iadd C dL_law_1085 ?_
                                                                obtain ⟨t583, e584, hf1⟩ := ob hf1
                                                                refine r_xld C hX hXb dL_law_1086 e584 ?_
                                                                obtain ⟨u586, e585, hf1⟩ := ob hf1
                                                                obtain ⟨t587, h588, e589, hf1⟩ := ob2 hf1
                                                                refine r_cV (ci := 12) (rest := [.int t580]) (st2 := [.int t587, .int t580]) C (s_X12_chance e589) mk_X12_chance rfl (ck_k e585) (by decide) im_X12_chance sl_X12_chance lk_L_138 rfl rfl rfl dL_law_1087 (Nat.le_of_ble_eq_true rfl) ⟨Nat.le_of_ble_eq_true rfl, Nat.le_of_ble_eq_true rfl⟩ (bd_rc hbd hL) ?_
                                                                refine r_icmp_eq (tgt := 1466) C dL_law_1090 (by decide) (fun c590 => ?_) (fun c590 => ?_)
                                                                · rw [if_pos c590] at hf1
                                                                  obtain ⟨t591, e592, hf1⟩ := ob hf1
                                                                  refine r_iinc (lv' := [(3, .int t591), (0, .retAddr 5), (1, .ref t1), (2, .ref t6)]) C dL_law_1466 rfl e592 (by decide) rfl ?_
                                                                  refine r_goto (tgt := 18) C dL_law_1469 (by decide) ?_
                                                                  obtain rfl := so hf1
                                                                  refine r_subk [1, 2, 3, 0] (lv' := [(0, .retAddr 5), (1, .ref t1), (2, .ref t6), (3, .int t591)]) rfl ?_
                                                                  exact ih18 t591 h588 cz sz (bd_same hbd cH hL e592) hk18
                                                                · rw [if_neg c590] at hf1
                                                                  obtain rfl := so hf1
                                                                  obtain rfl := so (show some (.inl h588 : (aH) ⊕ (aH)) = some y11 from hk18)
                                                                  dsimp only at hf0
                                                                  obtain rfl := so hf0
                                                                  exact absurd ho (show ¬ ((0 : Int32) = 1) by decide)
                                                              · rw [if_neg c575] at hf1
                                                                by_cases c593 : (t15 &&& (63 : Int32)) = (28 : Int32)
                                                                · rw [if_pos c593] at hf1
                                                                  refine r_tabIn (k := 28) (off := 1062) (tgt := 1095) C dL_law_33 c593 (by decide) (by decide) (by decide) (by decide) ?_
                                                                  refine r_aload_n C dL_law_1095 rfl ?_
                                                                  refine r_sload_n C dL_law_1096 rfl ?_
                                                                  refine r_iload_n C dL_law_1097 rfl ?_
                                                                  refine r_iconst (v := 1) C dL_law_1098 (by decide) ?_
                                                                  refine r_iadd C dL_law_1099 ?_
                                                                  obtain ⟨t594, e595, hf1⟩ := ob hf1
                                                                  refine r_xld C hX hXb dL_law_1100 e595 ?_
                                                                  refine r_sload_n C dL_law_1101 rfl ?_
                                                                  refine r_iload_n C dL_law_1102 rfl ?_
                                                                  refine r_iconst (v := 2) C dL_law_1103 (by decide) ?_
                                                                  refine r_iadd C dL_law_1104 ?_
                                                                  obtain ⟨t596, e597, hf1⟩ := ob hf1
                                                                  refine r_xld C hX hXb dL_law_1105 e597 ?_
                                                                  obtain ⟨u599, e598, hf1⟩ := ob hf1
                                                                  obtain ⟨t600, h601, e602, hf1⟩ := ob2 hf1
                                                                  refine r_cV (ci := 11) (rest := []) (st2 := [.int t600]) C (s_X11_trust e602) mk_X11_trust rfl (ck_k e598) (by decide) im_X11_trust sl_X11_trust lk_L_139 rfl rfl rfl dL_law_1106 (Nat.le_of_ble_eq_true rfl) ⟨Nat.le_of_ble_eq_true rfl, Nat.le_of_ble_eq_true rfl⟩ (bd_rc hbd hL) ?_
                                                                  refine r_aload_n C dL_law_1109 rfl ?_
                                                                  refine r_sload_n C dL_law_1110 rfl ?_
                                                                  refine r_iload_n C dL_law_1111 rfl ?_
                                                                  refine r_iconst (v := 1) C dL_law_1112 (by decide) ?_
                                                                  refine r_iadd C dL_law_1113 ?_
                                                                  obtain ⟨t603, e604, hf1⟩ := ob hf1
                                                                  refine r_xld C hX hXb dL_law_1114 e604 ?_
                                                                  refine r_sload_n C dL_law_1115 rfl ?_
                                                                  refine r_iload_n C dL_law_1116 rfl ?_
                                                                  refine r_iconst (v := 2) C dL_law_1117 (by decide) ?_
                                                                  refine r_iadd C dL_law_1118 ?_
                                                                  obtain ⟨t605, e606, hf1⟩ := ob hf1
                                                                  refine r_xld C hX hXb dL_law_1119 e606 ?_
                                                                  obtain ⟨u608, e607, hf1⟩ := ob hf1
                                                                  obtain ⟨t609, h610, e611, hf1⟩ := ob2 hf1
                                                                  refine r_cV (ci := 12) (rest := [.int t600]) (st2 := [.int t609, .int t600]) C (s_X12_trust e611) mk_X12_trust rfl (ck_k e607) (by decide) im_X12_trust sl_X12_trust lk_L_143 rfl rfl rfl dL_law_1120 (Nat.le_of_ble_eq_true rfl) ⟨Nat.le_of_ble_eq_true rfl, Nat.le_of_ble_eq_true rfl⟩ (bd_rc hbd hL) ?_
                                                                  refine r_icmp_eq (tgt := 1466) C dL_law_1123 (by decide) (fun c612 => ?_) (fun c612 => ?_)
                                                                  · rw [if_pos c612] at hf1
                                                                    obtain ⟨t613, e614, hf1⟩ := ob hf1
                                                                    refine r_iinc (lv' := [(3, .int t613), (0, .retAddr 5), (1, .ref t1), (2, .ref t6)]) C dL_law_1466 rfl e614 (by decide) rfl ?_
                                                                    refine r_goto (tgt := 18) C dL_law_1469 (by decide) ?_
                                                                    obtain rfl := so hf1
                                                                    refine r_subk [1, 2, 3, 0] (lv' := [(0, .retAddr 5), (1, .ref t1), (2, .ref t6), (3, .int t613)]) rfl ?_
                                                                    exact ih18 t613 h610 cz sz (bd_same hbd cH hL e614) hk18
                                                                  · rw [if_neg c612] at hf1
                                                                    obtain rfl := so hf1
                                                                    obtain rfl := so (show some (.inl h610 : (aH) ⊕ (aH)) = some y11 from hk18)
                                                                    dsimp only at hf0
                                                                    obtain rfl := so hf0
                                                                    exact absurd ho (show ¬ ((0 : Int32) = 1) by decide)
                                                                · rw [if_neg c593] at hf1
                                                                  by_cases c615 : (t15 &&& (63 : Int32)) = (29 : Int32)
                                                                  · rw [if_pos c615] at hf1
                                                                    refine r_tabIn (k := 29) (off := 1095) (tgt := 1128) C dL_law_33 c615 (by decide) (by decide) (by decide) (by decide) ?_
                                                                    refine r_aload_n C dL_law_1128 rfl ?_
                                                                    refine r_sload_n C dL_law_1129 rfl ?_
                                                                    refine r_iload_n C dL_law_1130 rfl ?_
                                                                    refine r_iconst (v := 1) C dL_law_1131 (by decide) ?_
                                                                    refine r_iadd C dL_law_1132 ?_
                                                                    obtain ⟨t616, e617, hf1⟩ := ob hf1
                                                                    refine r_xld C hX hXb dL_law_1133 e617 ?_
                                                                    obtain ⟨u619, e618, hf1⟩ := ob hf1
                                                                    obtain ⟨t620, h621, e622, hf1⟩ := ob2 hf1
                                                                    refine r_cV (ci := 11) (rest := []) (st2 := [.int t620]) C (s_X11_because e622) mk_X11_because rfl (ck_k e618) (by decide) im_X11_because sl_X11_because lk_L_144 rfl rfl rfl dL_law_1134 (Nat.le_of_ble_eq_true rfl) ⟨Nat.le_of_ble_eq_true rfl, Nat.le_of_ble_eq_true rfl⟩ (bd_rc hbd hL) ?_
                                                                    refine r_aload_n C dL_law_1137 rfl ?_
                                                                    refine r_sload_n C dL_law_1138 rfl ?_
                                                                    refine r_iload_n C dL_law_1139 rfl ?_
                                                                    refine r_iconst (v := 1) C dL_law_1140 (by decide) ?_
                                                                    refine r_iadd C dL_law_1141 ?_
                                                                    obtain ⟨t623, e624, hf1⟩ := ob hf1
                                                                    refine r_xld C hX hXb dL_law_1142 e624 ?_
                                                                    obtain ⟨u626, e625, hf1⟩ := ob hf1
                                                                    obtain ⟨t627, h628, e629, hf1⟩ := ob2 hf1
                                                                    refine r_cV (ci := 12) (rest := [.int t620]) (st2 := [.int t627, .int t620]) C (s_X12_because e629) mk_X12_because rfl (ck_k e625) (by decide) im_X12_because sl_X12_because lk_L_147 rfl rfl rfl dL_law_1143 (Nat.le_of_ble_eq_true rfl) ⟨Nat.le_of_ble_eq_true rfl, Nat.le_of_ble_eq_true rfl⟩ (bd_rc hbd hL) ?_
                                                                    refine r_icmp_eq (tgt := 1466) C dL_law_1146 (by decide) (fun c630 => ?_) (fun c630 => ?_)
                                                                    · rw [if_pos c630] at hf1
                                                                      obtain ⟨t631, e632, hf1⟩ := ob hf1
                                                                      refine r_iinc (lv' := [(3, .int t631), (0, .retAddr 5), (1, .ref t1), (2, .ref t6)]) C dL_law_1466 rfl e632 (by decide) rfl ?_
                                                                      refine r_goto (tgt := 18) C dL_law_1469 (by decide) ?_
                                                                      obtain rfl := so hf1
                                                                      refine r_subk [1, 2, 3, 0] (lv' := [(0, .retAddr 5), (1, .ref t1), (2, .ref t6), (3, .int t631)]) rfl ?_
                                                                      exact ih18 t631 h628 cz sz (bd_same hbd cH hL e632) hk18
                                                                    · rw [if_neg c630] at hf1
                                                                      obtain rfl := so hf1
                                                                      obtain rfl := so (show some (.inl h628 : (aH) ⊕ (aH)) = some y11 from hk18)
                                                                      dsimp only at hf0
                                                                      obtain rfl := so hf0
                                                                      exact absurd ho (show ¬ ((0 : Int32) = 1) by decide)
                                                                  · rw [if_neg c615] at hf1
                                                                    by_cases c633 : (t15 &&& (63 : Int32)) = (30 : Int32)
                                                                    · rw [if_pos c633] at hf1
                                                                      refine r_tabIn (k := 30) (off := 1118) (tgt := 1151) C dL_law_33 c633 (by decide) (by decide) (by decide) (by decide) ?_
                                                                      refine r_aload_n C dL_law_1151 rfl ?_
                                                                      refine r_sload_n C dL_law_1152 rfl ?_
                                                                      refine r_iload_n C dL_law_1153 rfl ?_
                                                                      refine r_iconst (v := 1) C dL_law_1154 (by decide) ?_
                                                                      refine r_iadd C dL_law_1155 ?_
                                                                      obtain ⟨t634, e635, hf1⟩ := ob hf1
                                                                      refine r_xld C hX hXb dL_law_1156 e635 ?_
                                                                      obtain ⟨u637, e636, hf1⟩ := ob hf1
                                                                      obtain ⟨t638, h639, e640, hf1⟩ := ob2 hf1
                                                                      refine r_cV (ci := 11) (rest := []) (st2 := [.int t638]) C (s_X11_gave e640) mk_X11_gave rfl (ck_k e636) (by decide) im_X11_gave sl_X11_gave lk_L_148 rfl rfl rfl dL_law_1157 (Nat.le_of_ble_eq_true rfl) ⟨Nat.le_of_ble_eq_true rfl, Nat.le_of_ble_eq_true rfl⟩ (bd_rc hbd hL) ?_
                                                                      refine r_aload_n C dL_law_1160 rfl ?_
                                                                      refine r_sload_n C dL_law_1161 rfl ?_
                                                                      refine r_iload_n C dL_law_1162 rfl ?_
                                                                      refine r_iconst (v := 1) C dL_law_1163 (by decide) ?_
                                                                      refine r_iadd C dL_law_1164 ?_
                                                                      obtain ⟨t641, e642, hf1⟩ := ob hf1
                                                                      refine r_xld C hX hXb dL_law_1165 e642 ?_
                                                                      obtain ⟨u644, e643, hf1⟩ := ob hf1
                                                                      obtain ⟨t645, h646, e647, hf1⟩ := ob2 hf1
                                                                      refine r_cV (ci := 12) (rest := [.int t638]) (st2 := [.int t645, .int t638]) C (s_X12_gave e647) mk_X12_gave rfl (ck_k e643) (by decide) im_X12_gave sl_X12_gave lk_L_151 rfl rfl rfl dL_law_1166 (Nat.le_of_ble_eq_true rfl) ⟨Nat.le_of_ble_eq_true rfl, Nat.le_of_ble_eq_true rfl⟩ (bd_rc hbd hL) ?_
                                                                      refine r_icmp_eq (tgt := 1466) C dL_law_1169 (by decide) (fun c648 => ?_) (fun c648 => ?_)
                                                                      · rw [if_pos c648] at hf1
                                                                        obtain ⟨t649, e650, hf1⟩ := ob hf1
                                                                        refine r_iinc (lv' := [(3, .int t649), (0, .retAddr 5), (1, .ref t1), (2, .ref t6)]) C dL_law_1466 rfl e650 (by decide) rfl ?_
                                                                        refine r_goto (tgt := 18) C dL_law_1469 (by decide) ?_
                                                                        obtain rfl := so hf1
                                                                        refine r_subk [1, 2, 3, 0] (lv' := [(0, .retAddr 5), (1, .ref t1), (2, .ref t6), (3, .int t649)]) rfl ?_
                                                                        exact ih18 t649 h646 cz sz (bd_same hbd cH hL e650) hk18
                                                                      · rw [if_neg c648] at hf1
                                                                        obtain rfl := so hf1
                                                                        obtain rfl := so (show some (.inl h646 : (aH) ⊕ (aH)) = some y11 from hk18)
                                                                        dsimp only at hf0
                                                                        obtain rfl := so hf0
                                                                        exact absurd ho (show ¬ ((0 : Int32) = 1) by decide)
                                                                    · rw [if_neg c633] at hf1
                                                                      by_cases c651 : (t15 &&& (63 : Int32)) = (31 : Int32)
                                                                      · rw [if_pos c651] at hf1
                                                                        refine r_tabIn (k := 31) (off := 1141) (tgt := 1174) C dL_law_33 c651 (by decide) (by decide) (by decide) (by decide) ?_
                                                                        refine r_aload_n C dL_law_1174 rfl ?_
                                                                        obtain ⟨u653, e652, hf1⟩ := ob hf1
                                                                        obtain ⟨t654, h655, e656, hf1⟩ := ob2 hf1
                                                                        refine r_cV (ci := 11) (rest := []) (st2 := [.int t654]) C (s_X11_fees e656) mk_X11_fees rfl (ck_k e652) (by decide) im_X11_fees sl_X11_fees lk_L_152 rfl rfl rfl dL_law_1175 (Nat.le_of_ble_eq_true rfl) ⟨Nat.le_of_ble_eq_true rfl, Nat.le_of_ble_eq_true rfl⟩ (bd_rc hbd hL) ?_
                                                                        refine r_aload_n C dL_law_1178 rfl ?_
                                                                        obtain ⟨u658, e657, hf1⟩ := ob hf1
                                                                        obtain ⟨t659, h660, e661, hf1⟩ := ob2 hf1
                                                                        refine r_cV (ci := 12) (rest := [.int t654]) (st2 := [.int t659, .int t654]) C (s_X12_fees e661) mk_X12_fees rfl (ck_k e657) (by decide) im_X12_fees sl_X12_fees lk_L_155 rfl rfl rfl dL_law_1179 (Nat.le_of_ble_eq_true rfl) ⟨Nat.le_of_ble_eq_true rfl, Nat.le_of_ble_eq_true rfl⟩ (bd_rc hbd hL) ?_
                                                                        refine r_icmp_eq (tgt := 1466) C dL_law_1182 (by decide) (fun c662 => ?_) (fun c662 => ?_)
                                                                        · rw [if_pos c662] at hf1
                                                                          obtain ⟨t663, e664, hf1⟩ := ob hf1
                                                                          refine r_iinc (lv' := [(3, .int t663), (0, .retAddr 5), (1, .ref t1), (2, .ref t6)]) C dL_law_1466 rfl e664 (by decide) rfl ?_
                                                                          refine r_goto (tgt := 18) C dL_law_1469 (by decide) ?_
                                                                          obtain rfl := so hf1
                                                                          refine r_subk [1, 2, 3, 0] (lv' := [(0, .retAddr 5), (1, .ref t1), (2, .ref t6), (3, .int t663)]) rfl ?_
                                                                          exact ih18 t663 h660 cz sz (bd_same hbd cH hL e664) hk18
                                                                        · rw [if_neg c662] at hf1
                                                                          obtain rfl := so hf1
                                                                          obtain rfl := so (show some (.inl h660 : (aH) ⊕ (aH)) = some y11 from hk18)
                                                                          dsimp only at hf0
                                                                          obtain rfl := so hf0
                                                                          exact absurd ho (show ¬ ((0 : Int32) = 1) by decide)
                                                                      · rw [if_neg c651] at hf1
                                                                        by_cases c665 : (t15 &&& (63 : Int32)) = (32 : Int32)
                                                                        · rw [if_pos c665] at hf1
                                                                          refine r_tabIn (k := 32) (off := 1154) (tgt := 1187) C dL_law_33 c665 (by decide) (by decide) (by decide) (by decide) ?_
                                                                          refine r_aload_n C dL_law_1187 rfl ?_
                                                                          refine r_sload_n C dL_law_1188 rfl ?_
                                                                          refine r_iload_n C dL_law_1189 rfl ?_
                                                                          refine r_iconst (v := 1) C dL_law_1190 (by decide) ?_
                                                                          refine r_iadd C dL_law_1191 ?_
                                                                          obtain ⟨t666, e667, hf1⟩ := ob hf1
                                                                          refine r_xld C hX hXb dL_law_1192 e667 ?_
                                                                          refine r_sload_n C dL_law_1193 rfl ?_
                                                                          refine r_iload_n C dL_law_1194 rfl ?_
                                                                          refine r_iconst (v := 2) C dL_law_1195 (by decide) ?_
                                                                          refine r_iadd C dL_law_1196 ?_
                                                                          obtain ⟨t668, e669, hf1⟩ := ob hf1
                                                                          refine r_xld C hX hXb dL_law_1197 e669 ?_
                                                                          obtain ⟨u671, e670, hf1⟩ := ob hf1
                                                                          obtain ⟨t672, h673, e674, hf1⟩ := ob2 hf1
                                                                          refine r_cV (ci := 11) (rest := []) (st2 := [.int t672]) C (s_X11_worst e674) mk_X11_worst rfl (ck_k e670) (by decide) im_X11_worst sl_X11_worst lk_L_156 rfl rfl rfl dL_law_1198 (Nat.le_of_ble_eq_true rfl) ⟨Nat.le_of_ble_eq_true rfl, Nat.le_of_ble_eq_true rfl⟩ (bd_rc hbd hL) ?_
                                                                          refine r_aload_n C dL_law_1201 rfl ?_
                                                                          refine r_sload_n C dL_law_1202 rfl ?_
                                                                          refine r_iload_n C dL_law_1203 rfl ?_
                                                                          refine r_iconst (v := 1) C dL_law_1204 (by decide) ?_
                                                                          refine r_iadd C dL_law_1205 ?_
                                                                          obtain ⟨t675, e676, hf1⟩ := ob hf1
                                                                          refine r_xld C hX hXb dL_law_1206 e676 ?_
                                                                          refine r_sload_n C dL_law_1207 rfl ?_
                                                                          refine r_iload_n C dL_law_1208 rfl ?_
                                                                          refine r_iconst (v := 2) C dL_law_1209 (by decide) ?_
                                                                          refine r_iadd C dL_law_1210 ?_
                                                                          obtain ⟨t677, e678, hf1⟩ := ob hf1
                                                                          refine r_xld C hX hXb dL_law_1211 e678 ?_
                                                                          obtain ⟨u680, e679, hf1⟩ := ob hf1
                                                                          obtain ⟨t681, h682, e683, hf1⟩ := ob2 hf1
                                                                          refine r_cV (ci := 12) (rest := [.int t672]) (st2 := [.int t681, .int t672]) C (s_X12_worst e683) mk_X12_worst rfl (ck_k e679) (by decide) im_X12_worst sl_X12_worst lk_L_159 rfl rfl rfl dL_law_1212 (Nat.le_of_ble_eq_true rfl) ⟨Nat.le_of_ble_eq_true rfl, Nat.le_of_ble_eq_true rfl⟩ (bd_rc hbd hL) ?_
                                                                          refine r_icmp_eq (tgt := 1466) C dL_law_1215 (by decide) (fun c684 => ?_) (fun c684 => ?_)
                                                                          · rw [if_pos c684] at hf1
                                                                            obtain ⟨t685, e686, hf1⟩ := ob hf1
                                                                            refine r_iinc (lv' := [(3, .int t685), (0, .retAddr 5), (1, .ref t1), (2, .ref t6)]) C dL_law_1466 rfl e686 (by decide) rfl ?_
                                                                            refine r_goto (tgt := 18) C dL_law_1469 (by decide) ?_
                                                                            obtain rfl := so hf1
                                                                            refine r_subk [1, 2, 3, 0] (lv' := [(0, .retAddr 5), (1, .ref t1), (2, .ref t6), (3, .int t685)]) rfl ?_
                                                                            exact ih18 t685 h682 cz sz (bd_same hbd cH hL e686) hk18
                                                                          · rw [if_neg c684] at hf1
                                                                            obtain rfl := so hf1
                                                                            obtain rfl := so (show some (.inl h682 : (aH) ⊕ (aH)) = some y11 from hk18)
                                                                            dsimp only at hf0
                                                                            obtain rfl := so hf0
                                                                            exact absurd ho (show ¬ ((0 : Int32) = 1) by decide)
                                                                        · rw [if_neg c665] at hf1
                                                                          by_cases c687 : (t15 &&& (63 : Int32)) = (33 : Int32)
                                                                          · rw [if_pos c687] at hf1
                                                                            refine r_tabIn (k := 33) (off := 1187) (tgt := 1220) C dL_law_33 c687 (by decide) (by decide) (by decide) (by decide) ?_
                                                                            refine r_aload_n C dL_law_1220 rfl ?_
                                                                            refine r_sload_n C dL_law_1221 rfl ?_
                                                                            refine r_iload_n C dL_law_1222 rfl ?_
                                                                            refine r_iconst (v := 1) C dL_law_1223 (by decide) ?_
                                                                            refine r_iadd C dL_law_1224 ?_
                                                                            obtain ⟨t688, e689, hf1⟩ := ob hf1
                                                                            refine r_xld C hX hXb dL_law_1225 e689 ?_
                                                                            obtain ⟨u691, e690, hf1⟩ := ob hf1
                                                                            obtain ⟨t692, h693, e694, hf1⟩ := ob2 hf1
                                                                            refine r_cV (ci := 11) (rest := []) (st2 := [.int t692]) C (s_X11_best e694) mk_X11_best rfl (ck_k e690) (by decide) im_X11_best sl_X11_best lk_L_160 rfl rfl rfl dL_law_1226 (Nat.le_of_ble_eq_true rfl) ⟨Nat.le_of_ble_eq_true rfl, Nat.le_of_ble_eq_true rfl⟩ (bd_rc hbd hL) ?_
                                                                            refine r_aload_n C dL_law_1229 rfl ?_
                                                                            refine r_sload_n C dL_law_1230 rfl ?_
                                                                            refine r_iload_n C dL_law_1231 rfl ?_
                                                                            refine r_iconst (v := 1) C dL_law_1232 (by decide) ?_
                                                                            refine r_iadd C dL_law_1233 ?_
                                                                            obtain ⟨t695, e696, hf1⟩ := ob hf1
                                                                            refine r_xld C hX hXb dL_law_1234 e696 ?_
                                                                            obtain ⟨u698, e697, hf1⟩ := ob hf1
                                                                            obtain ⟨t699, h700, e701, hf1⟩ := ob2 hf1
                                                                            refine r_cV (ci := 12) (rest := [.int t692]) (st2 := [.int t699, .int t692]) C (s_X12_best e701) mk_X12_best rfl (ck_k e697) (by decide) im_X12_best sl_X12_best lk_L_163 rfl rfl rfl dL_law_1235 (Nat.le_of_ble_eq_true rfl) ⟨Nat.le_of_ble_eq_true rfl, Nat.le_of_ble_eq_true rfl⟩ (bd_rc hbd hL) ?_
                                                                            refine r_icmp_eq (tgt := 1466) C dL_law_1238 (by decide) (fun c702 => ?_) (fun c702 => ?_)
                                                                            · rw [if_pos c702] at hf1
                                                                              obtain ⟨t703, e704, hf1⟩ := ob hf1
                                                                              refine r_iinc (lv' := [(3, .int t703), (0, .retAddr 5), (1, .ref t1), (2, .ref t6)]) C dL_law_1466 rfl e704 (by decide) rfl ?_
                                                                              refine r_goto (tgt := 18) C dL_law_1469 (by decide) ?_
                                                                              obtain rfl := so hf1
                                                                              refine r_subk [1, 2, 3, 0] (lv' := [(0, .retAddr 5), (1, .ref t1), (2, .ref t6), (3, .int t703)]) rfl ?_
                                                                              exact ih18 t703 h700 cz sz (bd_same hbd cH hL e704) hk18
                                                                            · rw [if_neg c702] at hf1
                                                                              obtain rfl := so hf1
                                                                              obtain rfl := so (show some (.inl h700 : (aH) ⊕ (aH)) = some y11 from hk18)
                                                                              dsimp only at hf0
                                                                              obtain rfl := so hf0
                                                                              exact absurd ho (show ¬ ((0 : Int32) = 1) by decide)
                                                                          · rw [if_neg c687] at hf1
                                                                            by_cases c705 : (t15 &&& (63 : Int32)) = (34 : Int32)
                                                                            · rw [if_pos c705] at hf1
                                                                              refine r_tabIn (k := 34) (off := 1210) (tgt := 1243) C dL_law_33 c705 (by decide) (by decide) (by decide) (by decide) ?_
                                                                              refine r_aload_n C dL_law_1243 rfl ?_
                                                                              refine r_sload_n C dL_law_1244 rfl ?_
                                                                              refine r_iload_n C dL_law_1245 rfl ?_
                                                                              refine r_iconst (v := 1) C dL_law_1246 (by decide) ?_
                                                                              refine r_iadd C dL_law_1247 ?_
                                                                              obtain ⟨t706, e707, hf1⟩ := ob hf1
                                                                              refine r_xld C hX hXb dL_law_1248 e707 ?_
                                                                              refine r_sload_n C dL_law_1249 rfl ?_
                                                                              refine r_iload_n C dL_law_1250 rfl ?_
                                                                              refine r_iconst (v := 2) C dL_law_1251 (by decide) ?_
                                                                              refine r_iadd C dL_law_1252 ?_
                                                                              obtain ⟨t708, e709, hf1⟩ := ob hf1
                                                                              refine r_xld C hX hXb dL_law_1253 e709 ?_
                                                                              obtain ⟨u711, e710, hf1⟩ := ob hf1
                                                                              obtain ⟨t712, h713, e714, hf1⟩ := ob2 hf1
                                                                              refine r_cV (ci := 11) (rest := []) (st2 := [.int t712]) C (s_X11_shortest e714) mk_X11_shortest rfl (ck_k e710) (by decide) im_X11_shortest sl_X11_shortest lk_L_164 rfl rfl rfl dL_law_1254 (Nat.le_of_ble_eq_true rfl) ⟨Nat.le_of_ble_eq_true rfl, Nat.le_of_ble_eq_true rfl⟩ (bd_rc hbd hL) ?_
                                                                              refine r_aload_n C dL_law_1257 rfl ?_
                                                                              refine r_sload_n C dL_law_1258 rfl ?_
                                                                              refine r_iload_n C dL_law_1259 rfl ?_
                                                                              refine r_iconst (v := 1) C dL_law_1260 (by decide) ?_
                                                                              refine r_iadd C dL_law_1261 ?_
                                                                              obtain ⟨t715, e716, hf1⟩ := ob hf1
                                                                              refine r_xld C hX hXb dL_law_1262 e716 ?_
                                                                              refine r_sload_n C dL_law_1263 rfl ?_
                                                                              refine r_iload_n C dL_law_1264 rfl ?_
                                                                              refine r_iconst (v := 2) C dL_law_1265 (by decide) ?_
                                                                              refine r_iadd C dL_law_1266 ?_
                                                                              obtain ⟨t717, e718, hf1⟩ := ob hf1
                                                                              refine r_xld C hX hXb dL_law_1267 e718 ?_
                                                                              obtain ⟨u720, e719, hf1⟩ := ob hf1
                                                                              obtain ⟨t721, h722, e723, hf1⟩ := ob2 hf1
                                                                              refine r_cV (ci := 12) (rest := [.int t712]) (st2 := [.int t721, .int t712]) C (s_X12_shortest e723) mk_X12_shortest rfl (ck_k e719) (by decide) im_X12_shortest sl_X12_shortest lk_L_167 rfl rfl rfl dL_law_1268 (Nat.le_of_ble_eq_true rfl) ⟨Nat.le_of_ble_eq_true rfl, Nat.le_of_ble_eq_true rfl⟩ (bd_rc hbd hL) ?_
                                                                              refine r_icmp_eq (tgt := 1466) C dL_law_1271 (by decide) (fun c724 => ?_) (fun c724 => ?_)
                                                                              · rw [if_pos c724] at hf1
                                                                                obtain ⟨t725, e726, hf1⟩ := ob hf1
                                                                                refine r_iinc (lv' := [(3, .int t725), (0, .retAddr 5), (1, .ref t1), (2, .ref t6)]) C dL_law_1466 rfl e726 (by decide) rfl ?_
                                                                                refine r_goto (tgt := 18) C dL_law_1469 (by decide) ?_
                                                                                obtain rfl := so hf1
                                                                                refine r_subk [1, 2, 3, 0] (lv' := [(0, .retAddr 5), (1, .ref t1), (2, .ref t6), (3, .int t725)]) rfl ?_
                                                                                exact ih18 t725 h722 cz sz (bd_same hbd cH hL e726) hk18
                                                                              · rw [if_neg c724] at hf1
                                                                                obtain rfl := so hf1
                                                                                obtain rfl := so (show some (.inl h722 : (aH) ⊕ (aH)) = some y11 from hk18)
                                                                                dsimp only at hf0
                                                                                obtain rfl := so hf0
                                                                                exact absurd ho (show ¬ ((0 : Int32) = 1) by decide)
                                                                            · rw [if_neg c705] at hf1
                                                                              by_cases c727 : (t15 &&& (63 : Int32)) = (35 : Int32)
                                                                              · rw [if_pos c727] at hf1
                                                                                refine r_tabIn (k := 35) (off := 1243) (tgt := 1276) C dL_law_33 c727 (by decide) (by decide) (by decide) (by decide) ?_
                                                                                refine r_aload_n C dL_law_1276 rfl ?_
                                                                                refine r_sload_n C dL_law_1277 rfl ?_
                                                                                refine r_iload_n C dL_law_1278 rfl ?_
                                                                                refine r_iconst (v := 1) C dL_law_1279 (by decide) ?_
                                                                                refine r_iadd C dL_law_1280 ?_
                                                                                obtain ⟨t728, e729, hf1⟩ := ob hf1
                                                                                refine r_xld C hX hXb dL_law_1281 e729 ?_
                                                                                obtain ⟨u731, e730, hf1⟩ := ob hf1
                                                                                obtain ⟨t732, h733, e734, hf1⟩ := ob2 hf1
                                                                                refine r_cV (ci := 11) (rest := []) (st2 := [.int t732]) C (s_X11_shortestFirst e734) mk_X11_shortestFirst rfl (ck_k e730) (by decide) im_X11_shortestFirst sl_X11_shortestFirst lk_L_168 rfl rfl rfl dL_law_1282 (Nat.le_of_ble_eq_true rfl) ⟨Nat.le_of_ble_eq_true rfl, Nat.le_of_ble_eq_true rfl⟩ (bd_rc hbd hL) ?_
                                                                                refine r_aload_n C dL_law_1285 rfl ?_
                                                                                refine r_sload_n C dL_law_1286 rfl ?_
                                                                                refine r_iload_n C dL_law_1287 rfl ?_
                                                                                refine r_iconst (v := 1) C dL_law_1288 (by decide) ?_
                                                                                refine r_iadd C dL_law_1289 ?_
                                                                                obtain ⟨t735, e736, hf1⟩ := ob hf1
                                                                                refine r_xld C hX hXb dL_law_1290 e736 ?_
                                                                                obtain ⟨u738, e737, hf1⟩ := ob hf1
                                                                                obtain ⟨t739, h740, e741, hf1⟩ := ob2 hf1
                                                                                refine r_cV (ci := 12) (rest := [.int t732]) (st2 := [.int t739, .int t732]) C (s_X12_shortestFirst e741) mk_X12_shortestFirst rfl (ck_k e737) (by decide) im_X12_shortestFirst sl_X12_shortestFirst lk_L_171 rfl rfl rfl dL_law_1291 (Nat.le_of_ble_eq_true rfl) ⟨Nat.le_of_ble_eq_true rfl, Nat.le_of_ble_eq_true rfl⟩ (bd_rc hbd hL) ?_
                                                                                refine r_icmp_eq (tgt := 1466) C dL_law_1294 (by decide) (fun c742 => ?_) (fun c742 => ?_)
                                                                                · rw [if_pos c742] at hf1
                                                                                  obtain ⟨t743, e744, hf1⟩ := ob hf1
                                                                                  refine r_iinc (lv' := [(3, .int t743), (0, .retAddr 5), (1, .ref t1), (2, .ref t6)]) C dL_law_1466 rfl e744 (by decide) rfl ?_
                                                                                  refine r_goto (tgt := 18) C dL_law_1469 (by decide) ?_
                                                                                  obtain rfl := so hf1
                                                                                  refine r_subk [1, 2, 3, 0] (lv' := [(0, .retAddr 5), (1, .ref t1), (2, .ref t6), (3, .int t743)]) rfl ?_
                                                                                  exact ih18 t743 h740 cz sz (bd_same hbd cH hL e744) hk18
                                                                                · rw [if_neg c742] at hf1
                                                                                  obtain rfl := so hf1
                                                                                  obtain rfl := so (show some (.inl h740 : (aH) ⊕ (aH)) = some y11 from hk18)
                                                                                  dsimp only at hf0
                                                                                  obtain rfl := so hf0
                                                                                  exact absurd ho (show ¬ ((0 : Int32) = 1) by decide)
                                                                              · rw [if_neg c727] at hf1
                                                                                by_cases c745 : (t15 &&& (63 : Int32)) = (36 : Int32)
                                                                                · rw [if_pos c745] at hf1
                                                                                  refine r_tabIn (k := 36) (off := 1266) (tgt := 1299) C dL_law_33 c745 (by decide) (by decide) (by decide) (by decide) ?_
                                                                                  refine r_aload_n C dL_law_1299 rfl ?_
                                                                                  obtain ⟨u747, e746, hf1⟩ := ob hf1
                                                                                  obtain ⟨t748, h749, e750, hf1⟩ := ob2 hf1
                                                                                  refine r_cV (ci := 11) (rest := []) (st2 := [.int t748]) C (s_X11_settled e750) mk_X11_settled rfl (ck_k e746) (by decide) im_X11_settled sl_X11_settled lk_L_172 rfl rfl rfl dL_law_1300 (Nat.le_of_ble_eq_true rfl) ⟨Nat.le_of_ble_eq_true rfl, Nat.le_of_ble_eq_true rfl⟩ (bd_rc hbd hL) ?_
                                                                                  refine r_aload_n C dL_law_1303 rfl ?_
                                                                                  obtain ⟨u752, e751, hf1⟩ := ob hf1
                                                                                  obtain ⟨t753, h754, e755, hf1⟩ := ob2 hf1
                                                                                  refine r_cV (ci := 12) (rest := [.int t748]) (st2 := [.int t753, .int t748]) C (s_X12_settled e755) mk_X12_settled rfl (ck_k e751) (by decide) im_X12_settled sl_X12_settled lk_L_175 rfl rfl rfl dL_law_1304 (Nat.le_of_ble_eq_true rfl) ⟨Nat.le_of_ble_eq_true rfl, Nat.le_of_ble_eq_true rfl⟩ (bd_rc hbd hL) ?_
                                                                                  refine r_icmp_eq (tgt := 1466) C dL_law_1307 (by decide) (fun c756 => ?_) (fun c756 => ?_)
                                                                                  · rw [if_pos c756] at hf1
                                                                                    obtain ⟨t757, e758, hf1⟩ := ob hf1
                                                                                    refine r_iinc (lv' := [(3, .int t757), (0, .retAddr 5), (1, .ref t1), (2, .ref t6)]) C dL_law_1466 rfl e758 (by decide) rfl ?_
                                                                                    refine r_goto (tgt := 18) C dL_law_1469 (by decide) ?_
                                                                                    obtain rfl := so hf1
                                                                                    refine r_subk [1, 2, 3, 0] (lv' := [(0, .retAddr 5), (1, .ref t1), (2, .ref t6), (3, .int t757)]) rfl ?_
                                                                                    exact ih18 t757 h754 cz sz (bd_same hbd cH hL e758) hk18
                                                                                  · rw [if_neg c756] at hf1
                                                                                    obtain rfl := so hf1
                                                                                    obtain rfl := so (show some (.inl h754 : (aH) ⊕ (aH)) = some y11 from hk18)
                                                                                    dsimp only at hf0
                                                                                    obtain rfl := so hf0
                                                                                    exact absurd ho (show ¬ ((0 : Int32) = 1) by decide)
                                                                                · rw [if_neg c745] at hf1
                                                                                  by_cases c759 : (t15 &&& (63 : Int32)) = (37 : Int32)
                                                                                  · rw [if_pos c759] at hf1
                                                                                    refine r_tabIn (k := 37) (off := 1279) (tgt := 1312) C dL_law_33 c759 (by decide) (by decide) (by decide) (by decide) ?_
                                                                                    refine r_aload_n C dL_law_1312 rfl ?_
                                                                                    obtain ⟨u761, e760, hf1⟩ := ob hf1
                                                                                    obtain ⟨t762, h763, e764, hf1⟩ := ob2 hf1
                                                                                    refine r_cV (ci := 11) (rest := []) (st2 := [.int t762]) C (s_X11_bench e764) mk_X11_bench rfl (ck_k e760) (by decide) im_X11_bench sl_X11_bench lk_L_176 rfl rfl rfl dL_law_1313 (Nat.le_of_ble_eq_true rfl) ⟨Nat.le_of_ble_eq_true rfl, Nat.le_of_ble_eq_true rfl⟩ (bd_rc hbd hL) ?_
                                                                                    refine r_aload_n C dL_law_1316 rfl ?_
                                                                                    obtain ⟨u766, e765, hf1⟩ := ob hf1
                                                                                    obtain ⟨t767, h768, e769, hf1⟩ := ob2 hf1
                                                                                    refine r_cV (ci := 12) (rest := [.int t762]) (st2 := [.int t767, .int t762]) C (s_X12_bench e769) mk_X12_bench rfl (ck_k e765) (by decide) im_X12_bench sl_X12_bench lk_L_179 rfl rfl rfl dL_law_1317 (Nat.le_of_ble_eq_true rfl) ⟨Nat.le_of_ble_eq_true rfl, Nat.le_of_ble_eq_true rfl⟩ (bd_rc hbd hL) ?_
                                                                                    refine r_icmp_eq (tgt := 1466) C dL_law_1320 (by decide) (fun c770 => ?_) (fun c770 => ?_)
                                                                                    · rw [if_pos c770] at hf1
                                                                                      obtain ⟨t771, e772, hf1⟩ := ob hf1
                                                                                      refine r_iinc (lv' := [(3, .int t771), (0, .retAddr 5), (1, .ref t1), (2, .ref t6)]) C dL_law_1466 rfl e772 (by decide) rfl ?_
                                                                                      refine r_goto (tgt := 18) C dL_law_1469 (by decide) ?_
                                                                                      obtain rfl := so hf1
                                                                                      refine r_subk [1, 2, 3, 0] (lv' := [(0, .retAddr 5), (1, .ref t1), (2, .ref t6), (3, .int t771)]) rfl ?_
                                                                                      exact ih18 t771 h768 cz sz (bd_same hbd cH hL e772) hk18
                                                                                    · rw [if_neg c770] at hf1
                                                                                      obtain rfl := so hf1
                                                                                      obtain rfl := so (show some (.inl h768 : (aH) ⊕ (aH)) = some y11 from hk18)
                                                                                      dsimp only at hf0
                                                                                      obtain rfl := so hf0
                                                                                      exact absurd ho (show ¬ ((0 : Int32) = 1) by decide)
                                                                                  · rw [if_neg c759] at hf1
                                                                                    by_cases c773 : (t15 &&& (63 : Int32)) = (38 : Int32)
                                                                                    · rw [if_pos c773] at hf1
                                                                                      refine r_tabIn (k := 38) (off := 1292) (tgt := 1325) C dL_law_33 c773 (by decide) (by decide) (by decide) (by decide) ?_
                                                                                      refine r_aload_n C dL_law_1325 rfl ?_
                                                                                      obtain ⟨u775, e774, hf1⟩ := ob hf1
                                                                                      obtain ⟨t776, h777, e778, hf1⟩ := ob2 hf1
                                                                                      refine r_cV (ci := 11) (rest := []) (st2 := [.int t776]) C (s_X11_clash e778) mk_X11_clash rfl (ck_k e774) (by decide) im_X11_clash sl_X11_clash lk_L_180 rfl rfl rfl dL_law_1326 (Nat.le_of_ble_eq_true rfl) ⟨Nat.le_of_ble_eq_true rfl, Nat.le_of_ble_eq_true rfl⟩ (bd_rc hbd hL) ?_
                                                                                      refine r_aload_n C dL_law_1329 rfl ?_
                                                                                      obtain ⟨u780, e779, hf1⟩ := ob hf1
                                                                                      obtain ⟨t781, h782, e783, hf1⟩ := ob2 hf1
                                                                                      refine r_cV (ci := 12) (rest := [.int t776]) (st2 := [.int t781, .int t776]) C (s_X12_clash e783) mk_X12_clash rfl (ck_k e779) (by decide) im_X12_clash sl_X12_clash lk_L_183 rfl rfl rfl dL_law_1330 (Nat.le_of_ble_eq_true rfl) ⟨Nat.le_of_ble_eq_true rfl, Nat.le_of_ble_eq_true rfl⟩ (bd_rc hbd hL) ?_
                                                                                      refine r_icmp_eq (tgt := 1466) C dL_law_1333 (by decide) (fun c784 => ?_) (fun c784 => ?_)
                                                                                      · rw [if_pos c784] at hf1
                                                                                        obtain ⟨t785, e786, hf1⟩ := ob hf1
                                                                                        refine r_iinc (lv' := [(3, .int t785), (0, .retAddr 5), (1, .ref t1), (2, .ref t6)]) C dL_law_1466 rfl e786 (by decide) rfl ?_
                                                                                        refine r_goto (tgt := 18) C dL_law_1469 (by decide) ?_
                                                                                        obtain rfl := so hf1
                                                                                        refine r_subk [1, 2, 3, 0] (lv' := [(0, .retAddr 5), (1, .ref t1), (2, .ref t6), (3, .int t785)]) rfl ?_
                                                                                        exact ih18 t785 h782 cz sz (bd_same hbd cH hL e786) hk18
                                                                                      · rw [if_neg c784] at hf1
                                                                                        obtain rfl := so hf1
                                                                                        obtain rfl := so (show some (.inl h782 : (aH) ⊕ (aH)) = some y11 from hk18)
                                                                                        dsimp only at hf0
                                                                                        obtain rfl := so hf0
                                                                                        exact absurd ho (show ¬ ((0 : Int32) = 1) by decide)
                                                                                    · rw [if_neg c773] at hf1
                                                                                      by_cases c787 : (t15 &&& (63 : Int32)) = (39 : Int32)
                                                                                      · rw [if_pos c787] at hf1
                                                                                        refine r_tabIn (k := 39) (off := 1305) (tgt := 1338) C dL_law_33 c787 (by decide) (by decide) (by decide) (by decide) ?_
                                                                                        refine r_aload_n C dL_law_1338 rfl ?_
                                                                                        obtain ⟨u789, e788, hf1⟩ := ob hf1
                                                                                        obtain ⟨t790, h791, e792, hf1⟩ := ob2 hf1
                                                                                        refine r_cV (ci := 11) (rest := []) (st2 := [.int t790]) C (s_X11_liars e792) mk_X11_liars rfl (ck_k e788) (by decide) im_X11_liars sl_X11_liars lk_L_184 rfl rfl rfl dL_law_1339 (Nat.le_of_ble_eq_true rfl) ⟨Nat.le_of_ble_eq_true rfl, Nat.le_of_ble_eq_true rfl⟩ (bd_rc hbd hL) ?_
                                                                                        refine r_aload_n C dL_law_1342 rfl ?_
                                                                                        obtain ⟨u794, e793, hf1⟩ := ob hf1
                                                                                        obtain ⟨t795, h796, e797, hf1⟩ := ob2 hf1
                                                                                        refine r_cV (ci := 12) (rest := [.int t790]) (st2 := [.int t795, .int t790]) C (s_X12_liars e797) mk_X12_liars rfl (ck_k e793) (by decide) im_X12_liars sl_X12_liars lk_L_187 rfl rfl rfl dL_law_1343 (Nat.le_of_ble_eq_true rfl) ⟨Nat.le_of_ble_eq_true rfl, Nat.le_of_ble_eq_true rfl⟩ (bd_rc hbd hL) ?_
                                                                                        refine r_icmp_eq (tgt := 1466) C dL_law_1346 (by decide) (fun c798 => ?_) (fun c798 => ?_)
                                                                                        · rw [if_pos c798] at hf1
                                                                                          obtain ⟨t799, e800, hf1⟩ := ob hf1
                                                                                          refine r_iinc (lv' := [(3, .int t799), (0, .retAddr 5), (1, .ref t1), (2, .ref t6)]) C dL_law_1466 rfl e800 (by decide) rfl ?_
                                                                                          refine r_goto (tgt := 18) C dL_law_1469 (by decide) ?_
                                                                                          obtain rfl := so hf1
                                                                                          refine r_subk [1, 2, 3, 0] (lv' := [(0, .retAddr 5), (1, .ref t1), (2, .ref t6), (3, .int t799)]) rfl ?_
                                                                                          exact ih18 t799 h796 cz sz (bd_same hbd cH hL e800) hk18
                                                                                        · rw [if_neg c798] at hf1
                                                                                          obtain rfl := so hf1
                                                                                          obtain rfl := so (show some (.inl h796 : (aH) ⊕ (aH)) = some y11 from hk18)
                                                                                          dsimp only at hf0
                                                                                          obtain rfl := so hf0
                                                                                          exact absurd ho (show ¬ ((0 : Int32) = 1) by decide)
                                                                                      · rw [if_neg c787] at hf1
                                                                                        by_cases c801 : (t15 &&& (63 : Int32)) = (40 : Int32)
                                                                                        · rw [if_pos c801] at hf1
                                                                                          refine r_tabIn (k := 40) (off := 1318) (tgt := 1351) C dL_law_33 c801 (by decide) (by decide) (by decide) (by decide) ?_
                                                                                          refine r_aload_n C dL_law_1351 rfl ?_
                                                                                          refine r_sload_n C dL_law_1352 rfl ?_
                                                                                          refine r_iload_n C dL_law_1353 rfl ?_
                                                                                          refine r_iconst (v := 1) C dL_law_1354 (by decide) ?_
                                                                                          refine r_iadd C dL_law_1355 ?_
                                                                                          obtain ⟨t802, e803, hf1⟩ := ob hf1
                                                                                          refine r_xld C hX hXb dL_law_1356 e803 ?_
                                                                                          obtain ⟨u805, e804, hf1⟩ := ob hf1
                                                                                          obtain ⟨t806, h807, e808, hf1⟩ := ob2 hf1
                                                                                          refine r_cV (ci := 11) (rest := []) (st2 := [.int t806]) C (s_X11_sit e808) mk_X11_sit rfl (ck_k e804) (by decide) im_X11_sit sl_X11_sit lk_L_188 rfl rfl rfl dL_law_1357 (Nat.le_of_ble_eq_true rfl) ⟨Nat.le_of_ble_eq_true rfl, Nat.le_of_ble_eq_true rfl⟩ (bd_rc hbd hL) ?_
                                                                                          refine r_aload_n C dL_law_1360 rfl ?_
                                                                                          refine r_sload_n C dL_law_1361 rfl ?_
                                                                                          refine r_iload_n C dL_law_1362 rfl ?_
                                                                                          refine r_iconst (v := 1) C dL_law_1363 (by decide) ?_
                                                                                          refine r_iadd C dL_law_1364 ?_
                                                                                          obtain ⟨t809, e810, hf1⟩ := ob hf1
                                                                                          refine r_xld C hX hXb dL_law_1365 e810 ?_
                                                                                          obtain ⟨u812, e811, hf1⟩ := ob hf1
                                                                                          obtain ⟨t813, h814, e815, hf1⟩ := ob2 hf1
                                                                                          refine r_cV (ci := 12) (rest := [.int t806]) (st2 := [.int t813, .int t806]) C (s_X12_sit e815) mk_X12_sit rfl (ck_k e811) (by decide) im_X12_sit sl_X12_sit lk_L_191 rfl rfl rfl dL_law_1366 (Nat.le_of_ble_eq_true rfl) ⟨Nat.le_of_ble_eq_true rfl, Nat.le_of_ble_eq_true rfl⟩ (bd_rc hbd hL) ?_
                                                                                          refine r_icmp_eq (tgt := 1466) C dL_law_1369 (by decide) (fun c816 => ?_) (fun c816 => ?_)
                                                                                          · rw [if_pos c816] at hf1
                                                                                            obtain ⟨t817, e818, hf1⟩ := ob hf1
                                                                                            refine r_iinc (lv' := [(3, .int t817), (0, .retAddr 5), (1, .ref t1), (2, .ref t6)]) C dL_law_1466 rfl e818 (by decide) rfl ?_
                                                                                            refine r_goto (tgt := 18) C dL_law_1469 (by decide) ?_
                                                                                            obtain rfl := so hf1
                                                                                            refine r_subk [1, 2, 3, 0] (lv' := [(0, .retAddr 5), (1, .ref t1), (2, .ref t6), (3, .int t817)]) rfl ?_
                                                                                            exact ih18 t817 h814 cz sz (bd_same hbd cH hL e818) hk18
                                                                                          · rw [if_neg c816] at hf1
                                                                                            obtain rfl := so hf1
                                                                                            obtain rfl := so (show some (.inl h814 : (aH) ⊕ (aH)) = some y11 from hk18)
                                                                                            dsimp only at hf0
                                                                                            obtain rfl := so hf0
                                                                                            exact absurd ho (show ¬ ((0 : Int32) = 1) by decide)
                                                                                        · rw [if_neg c801] at hf1
                                                                                          by_cases c819 : (t15 &&& (63 : Int32)) = (41 : Int32)
                                                                                          · rw [if_pos c819] at hf1
                                                                                            refine r_tabIn (k := 41) (off := 1341) (tgt := 1374) C dL_law_33 c819 (by decide) (by decide) (by decide) (by decide) ?_
                                                                                            refine r_aload_n C dL_law_1374 rfl ?_
                                                                                            refine r_sload_n C dL_law_1375 rfl ?_
                                                                                            refine r_iload_n C dL_law_1376 rfl ?_
                                                                                            refine r_iconst (v := 1) C dL_law_1377 (by decide) ?_
                                                                                            refine r_iadd C dL_law_1378 ?_
                                                                                            obtain ⟨t820, e821, hf1⟩ := ob hf1
                                                                                            refine r_xld C hX hXb dL_law_1379 e821 ?_
                                                                                            obtain ⟨u823, e822, hf1⟩ := ob hf1
                                                                                            obtain ⟨t824, h825, e826, hf1⟩ := ob2 hf1
                                                                                            refine r_cV (ci := 11) (rest := []) (st2 := [.int t824]) C (s_X11_sat e826) mk_X11_sat rfl (ck_k e822) (by decide) im_X11_sat sl_X11_sat lk_L_192 rfl rfl rfl dL_law_1380 (Nat.le_of_ble_eq_true rfl) ⟨Nat.le_of_ble_eq_true rfl, Nat.le_of_ble_eq_true rfl⟩ (bd_rc hbd hL) ?_
                                                                                            refine r_aload_n C dL_law_1383 rfl ?_
                                                                                            refine r_sload_n C dL_law_1384 rfl ?_
                                                                                            refine r_iload_n C dL_law_1385 rfl ?_
                                                                                            refine r_iconst (v := 1) C dL_law_1386 (by decide) ?_
                                                                                            refine r_iadd C dL_law_1387 ?_
                                                                                            obtain ⟨t827, e828, hf1⟩ := ob hf1
                                                                                            refine r_xld C hX hXb dL_law_1388 e828 ?_
                                                                                            obtain ⟨u830, e829, hf1⟩ := ob hf1
                                                                                            obtain ⟨t831, h832, e833, hf1⟩ := ob2 hf1
                                                                                            refine r_cV (ci := 12) (rest := [.int t824]) (st2 := [.int t831, .int t824]) C (s_X12_sat e833) mk_X12_sat rfl (ck_k e829) (by decide) im_X12_sat sl_X12_sat lk_L_195 rfl rfl rfl dL_law_1389 (Nat.le_of_ble_eq_true rfl) ⟨Nat.le_of_ble_eq_true rfl, Nat.le_of_ble_eq_true rfl⟩ (bd_rc hbd hL) ?_
                                                                                            refine r_icmp_eq (tgt := 1466) C dL_law_1392 (by decide) (fun c834 => ?_) (fun c834 => ?_)
                                                                                            · rw [if_pos c834] at hf1
                                                                                              obtain ⟨t835, e836, hf1⟩ := ob hf1
                                                                                              refine r_iinc (lv' := [(3, .int t835), (0, .retAddr 5), (1, .ref t1), (2, .ref t6)]) C dL_law_1466 rfl e836 (by decide) rfl ?_
                                                                                              refine r_goto (tgt := 18) C dL_law_1469 (by decide) ?_
                                                                                              obtain rfl := so hf1
                                                                                              refine r_subk [1, 2, 3, 0] (lv' := [(0, .retAddr 5), (1, .ref t1), (2, .ref t6), (3, .int t835)]) rfl ?_
                                                                                              exact ih18 t835 h832 cz sz (bd_same hbd cH hL e836) hk18
                                                                                            · rw [if_neg c834] at hf1
                                                                                              obtain rfl := so hf1
                                                                                              obtain rfl := so (show some (.inl h832 : (aH) ⊕ (aH)) = some y11 from hk18)
                                                                                              dsimp only at hf0
                                                                                              obtain rfl := so hf0
                                                                                              exact absurd ho (show ¬ ((0 : Int32) = 1) by decide)
                                                                                          · rw [if_neg c819] at hf1
                                                                                            by_cases c837 : (t15 &&& (63 : Int32)) = (42 : Int32)
                                                                                            · rw [if_pos c837] at hf1
                                                                                              refine r_tabIn (k := 42) (off := 1364) (tgt := 1397) C dL_law_33 c837 (by decide) (by decide) (by decide) (by decide) ?_
                                                                                              refine r_aload_n C dL_law_1397 rfl ?_
                                                                                              refine r_sload_n C dL_law_1398 rfl ?_
                                                                                              refine r_iload_n C dL_law_1399 rfl ?_
                                                                                              refine r_iconst (v := 1) C dL_law_1400 (by decide) ?_
                                                                                              refine r_iadd C dL_law_1401 ?_
                                                                                              obtain ⟨t838, e839, hf1⟩ := ob hf1
                                                                                              refine r_xld C hX hXb dL_law_1402 e839 ?_
                                                                                              refine r_sload_n C dL_law_1403 rfl ?_
                                                                                              refine r_iload_n C dL_law_1404 rfl ?_
                                                                                              refine r_iconst (v := 2) C dL_law_1405 (by decide) ?_
                                                                                              refine r_iadd C dL_law_1406 ?_
                                                                                              obtain ⟨t840, e841, hf1⟩ := ob hf1
                                                                                              refine r_xld C hX hXb dL_law_1407 e841 ?_
                                                                                              refine r_sload_n C dL_law_1408 rfl ?_
                                                                                              refine r_iload_n C dL_law_1409 rfl ?_
                                                                                              refine r_iconst (v := 3) C dL_law_1410 (by decide) ?_
                                                                                              refine r_iadd C dL_law_1411 ?_
                                                                                              obtain ⟨t842, e843, hf1⟩ := ob hf1
                                                                                              refine r_xld C hX hXb dL_law_1412 e843 ?_
                                                                                              obtain ⟨u845, e844, hf1⟩ := ob hf1
                                                                                              obtain ⟨t846, h847, e848, hf1⟩ := ob2 hf1
                                                                                              refine r_cV (ci := 11) (rest := []) (st2 := [.int t846]) C (s_X11_tally e848) mk_X11_tally rfl (ck_k e844) (by decide) im_X11_tally sl_X11_tally lk_L_196 rfl rfl rfl dL_law_1413 (Nat.le_of_ble_eq_true rfl) ⟨Nat.le_of_ble_eq_true rfl, Nat.le_of_ble_eq_true rfl⟩ (bd_rc hbd hL) ?_
                                                                                              refine r_aload_n C dL_law_1416 rfl ?_
                                                                                              refine r_sload_n C dL_law_1417 rfl ?_
                                                                                              refine r_iload_n C dL_law_1418 rfl ?_
                                                                                              refine r_iconst (v := 1) C dL_law_1419 (by decide) ?_
                                                                                              refine r_iadd C dL_law_1420 ?_
                                                                                              obtain ⟨t849, e850, hf1⟩ := ob hf1
                                                                                              refine r_xld C hX hXb dL_law_1421 e850 ?_
                                                                                              refine r_sload_n C dL_law_1422 rfl ?_
                                                                                              refine r_iload_n C dL_law_1423 rfl ?_
                                                                                              refine r_iconst (v := 2) C dL_law_1424 (by decide) ?_
                                                                                              refine r_iadd C dL_law_1425 ?_
                                                                                              obtain ⟨t851, e852, hf1⟩ := ob hf1
                                                                                              refine r_xld C hX hXb dL_law_1426 e852 ?_
                                                                                              refine r_sload_n C dL_law_1427 rfl ?_
                                                                                              refine r_iload_n C dL_law_1428 rfl ?_
                                                                                              refine r_iconst (v := 3) C dL_law_1429 (by decide) ?_
                                                                                              refine r_iadd C dL_law_1430 ?_
                                                                                              obtain ⟨t853, e854, hf1⟩ := ob hf1
                                                                                              refine r_xld C hX hXb dL_law_1431 e854 ?_
                                                                                              obtain ⟨u856, e855, hf1⟩ := ob hf1
                                                                                              obtain ⟨t857, h858, e859, hf1⟩ := ob2 hf1
                                                                                              refine r_cV (ci := 12) (rest := [.int t846]) (st2 := [.int t857, .int t846]) C (s_X12_tally e859) mk_X12_tally rfl (ck_k e855) (by decide) im_X12_tally sl_X12_tally lk_L_199 rfl rfl rfl dL_law_1432 (Nat.le_of_ble_eq_true rfl) ⟨Nat.le_of_ble_eq_true rfl, Nat.le_of_ble_eq_true rfl⟩ (bd_rc hbd hL) ?_
                                                                                              refine r_icmp_eq (tgt := 1466) C dL_law_1435 (by decide) (fun c860 => ?_) (fun c860 => ?_)
                                                                                              · rw [if_pos c860] at hf1
                                                                                                obtain ⟨t861, e862, hf1⟩ := ob hf1
                                                                                                refine r_iinc (lv' := [(3, .int t861), (0, .retAddr 5), (1, .ref t1), (2, .ref t6)]) C dL_law_1466 rfl e862 (by decide) rfl ?_
                                                                                                refine r_goto (tgt := 18) C dL_law_1469 (by decide) ?_
                                                                                                obtain rfl := so hf1
                                                                                                refine r_subk [1, 2, 3, 0] (lv' := [(0, .retAddr 5), (1, .ref t1), (2, .ref t6), (3, .int t861)]) rfl ?_
                                                                                                exact ih18 t861 h858 cz sz (bd_same hbd cH hL e862) hk18
                                                                                              · rw [if_neg c860] at hf1
                                                                                                obtain rfl := so hf1
                                                                                                obtain rfl := so (show some (.inl h858 : (aH) ⊕ (aH)) = some y11 from hk18)
                                                                                                dsimp only at hf0
                                                                                                obtain rfl := so hf0
                                                                                                exact absurd ho (show ¬ ((0 : Int32) = 1) by decide)
                                                                                            · rw [if_neg c837] at hf1
                                                                                              by_cases c863 : (t15 &&& (63 : Int32)) = (43 : Int32)
                                                                                              · rw [if_pos c863] at hf1
                                                                                                refine r_tabIn (k := 43) (off := 1407) (tgt := 1440) C dL_law_33 c863 (by decide) (by decide) (by decide) (by decide) ?_
                                                                                                refine r_aload_n C dL_law_1440 rfl ?_
                                                                                                obtain ⟨u865, e864, hf1⟩ := ob hf1
                                                                                                obtain ⟨t866, h867, e868, hf1⟩ := ob2 hf1
                                                                                                refine r_cV (ci := 11) (rest := []) (st2 := [.int t866]) C (s_X11_mark e868) mk_X11_mark rfl (ck_k e864) (by decide) im_X11_mark sl_X11_mark lk_L_200 rfl rfl rfl dL_law_1441 (Nat.le_of_ble_eq_true rfl) ⟨Nat.le_of_ble_eq_true rfl, Nat.le_of_ble_eq_true rfl⟩ (bd_rc hbd hL) ?_
                                                                                                refine r_aload_n C dL_law_1444 rfl ?_
                                                                                                obtain ⟨u870, e869, hf1⟩ := ob hf1
                                                                                                obtain ⟨t871, h872, e873, hf1⟩ := ob2 hf1
                                                                                                refine r_cV (ci := 12) (rest := [.int t866]) (st2 := [.int t871, .int t866]) C (s_X12_mark e873) mk_X12_mark rfl (ck_k e869) (by decide) im_X12_mark sl_X12_mark lk_L_203 rfl rfl rfl dL_law_1445 (Nat.le_of_ble_eq_true rfl) ⟨Nat.le_of_ble_eq_true rfl, Nat.le_of_ble_eq_true rfl⟩ (bd_rc hbd hL) ?_
                                                                                                refine r_icmp_eq (tgt := 1466) C dL_law_1448 (by decide) (fun c874 => ?_) (fun c874 => ?_)
                                                                                                · rw [if_pos c874] at hf1
                                                                                                  obtain ⟨t875, e876, hf1⟩ := ob hf1
                                                                                                  refine r_iinc (lv' := [(3, .int t875), (0, .retAddr 5), (1, .ref t1), (2, .ref t6)]) C dL_law_1466 rfl e876 (by decide) rfl ?_
                                                                                                  refine r_goto (tgt := 18) C dL_law_1469 (by decide) ?_
                                                                                                  obtain rfl := so hf1
                                                                                                  refine r_subk [1, 2, 3, 0] (lv' := [(0, .retAddr 5), (1, .ref t1), (2, .ref t6), (3, .int t875)]) rfl ?_
                                                                                                  exact ih18 t875 h872 cz sz (bd_same hbd cH hL e876) hk18
                                                                                                · rw [if_neg c874] at hf1
                                                                                                  obtain rfl := so hf1
                                                                                                  obtain rfl := so (show some (.inl h872 : (aH) ⊕ (aH)) = some y11 from hk18)
                                                                                                  dsimp only at hf0
                                                                                                  obtain rfl := so hf0
                                                                                                  exact absurd ho (show ¬ ((0 : Int32) = 1) by decide)
                                                                                              · rw [if_neg c863] at hf1
                                                                                                by_cases c877 : (t15 &&& (63 : Int32)) = (44 : Int32)
                                                                                                · rw [if_pos c877] at hf1
                                                                                                  refine r_tabIn (k := 44) (off := 1420) (tgt := 1453) C dL_law_33 c877 (by decide) (by decide) (by decide) (by decide) ?_
                                                                                                  refine r_aload_n C dL_law_1453 rfl ?_
                                                                                                  obtain ⟨u879, e878, hf1⟩ := ob hf1
                                                                                                  obtain ⟨t880, h881, e882, hf1⟩ := ob2 hf1
                                                                                                  refine r_cV (ci := 11) (rest := []) (st2 := [.int t880]) C (s_X11_back e882) mk_X11_back rfl (ck_k e878) (by decide) im_X11_back sl_X11_back lk_L_204 rfl rfl rfl dL_law_1454 (Nat.le_of_ble_eq_true rfl) ⟨Nat.le_of_ble_eq_true rfl, Nat.le_of_ble_eq_true rfl⟩ (bd_rc hbd hL) ?_
                                                                                                  refine r_aload_n C dL_law_1457 rfl ?_
                                                                                                  obtain ⟨u884, e883, hf1⟩ := ob hf1
                                                                                                  obtain ⟨t885, h886, e887, hf1⟩ := ob2 hf1
                                                                                                  refine r_cV (ci := 12) (rest := [.int t880]) (st2 := [.int t885, .int t880]) C (s_X12_back e887) mk_X12_back rfl (ck_k e883) (by decide) im_X12_back sl_X12_back lk_L_207 rfl rfl rfl dL_law_1458 (Nat.le_of_ble_eq_true rfl) ⟨Nat.le_of_ble_eq_true rfl, Nat.le_of_ble_eq_true rfl⟩ (bd_rc hbd hL) ?_
                                                                                                  refine r_icmp_eq (tgt := 1466) C dL_law_1461 (by decide) (fun c888 => ?_) (fun c888 => ?_)
                                                                                                  · rw [if_pos c888] at hf1
                                                                                                    obtain ⟨t889, e890, hf1⟩ := ob hf1
                                                                                                    refine r_iinc (lv' := [(3, .int t889), (0, .retAddr 5), (1, .ref t1), (2, .ref t6)]) C dL_law_1466 rfl e890 (by decide) rfl ?_
                                                                                                    refine r_goto (tgt := 18) C dL_law_1469 (by decide) ?_
                                                                                                    obtain rfl := so hf1
                                                                                                    refine r_subk [1, 2, 3, 0] (lv' := [(0, .retAddr 5), (1, .ref t1), (2, .ref t6), (3, .int t889)]) rfl ?_
                                                                                                    exact ih18 t889 h886 cz sz (bd_same hbd cH hL e890) hk18
                                                                                                  · rw [if_neg c888] at hf1
                                                                                                    obtain rfl := so hf1
                                                                                                    obtain rfl := so (show some (.inl h886 : (aH) ⊕ (aH)) = some y11 from hk18)
                                                                                                    dsimp only at hf0
                                                                                                    obtain rfl := so hf0
                                                                                                    exact absurd ho (show ¬ ((0 : Int32) = 1) by decide)
                                                                                                · rw [if_neg c877] at hf1
                                                                                                  refine r_tabOut (tgt := 1466) C dL_law_33 (tsw (fun j j1 j2 => ?_)) (by decide) ?_
                                                                                                  · rcases (show j = 0 ∨ j = 1 ∨ j = 2 ∨ j = 3 ∨ j = 4 ∨ j = 5 ∨ j = 6 ∨ j = 7 ∨ j = 8 ∨ j = 9 ∨ j = 10 ∨ j = 11 ∨ j = 12 ∨ j = 13 ∨ j = 14 ∨ j = 15 ∨ j = 16 ∨ j = 17 ∨ j = 18 ∨ j = 19 ∨ j = 20 ∨ j = 21 ∨ j = 22 ∨ j = 23 ∨ j = 24 ∨ j = 25 ∨ j = 26 ∨ j = 27 ∨ j = 28 ∨ j = 29 ∨ j = 30 ∨ j = 31 ∨ j = 32 ∨ j = 33 ∨ j = 34 ∨ j = 35 ∨ j = 36 ∨ j = 37 ∨ j = 38 ∨ j = 39 ∨ j = 40 ∨ j = 41 ∨ j = 42 ∨ j = 43 ∨ j = 44 by omega) with rfl | rfl | rfl | rfl | rfl | rfl | rfl | rfl | rfl | rfl | rfl | rfl | rfl | rfl | rfl | rfl | rfl | rfl | rfl | rfl | rfl | rfl | rfl | rfl | rfl | rfl | rfl | rfl | rfl | rfl | rfl | rfl | rfl | rfl | rfl | rfl | rfl | rfl | rfl | rfl | rfl | rfl | rfl | rfl | rfl
                                                                                                    · exact tsw_ne c17
                                                                                                    · exact tsw_ne c29
                                                                                                    · exact tsw_ne c41
                                                                                                    · exact tsw_ne c53
                                                                                                    · exact tsw_ne c79
                                                                                                    · exact tsw_ne c109
                                                                                                    · exact tsw_ne c131
                                                                                                    · exact tsw_ne c165
                                                                                                    · exact tsw_ne c199
                                                                                                    · exact tsw_ne c217
                                                                                                    · exact tsw_ne c235
                                                                                                    · exact tsw_ne c251
                                                                                                    · exact tsw_ne c269
                                                                                                    · exact tsw_ne c291
                                                                                                    · exact tsw_ne c313
                                                                                                    · exact tsw_ne c331
                                                                                                    · exact tsw_ne c353
                                                                                                    · exact tsw_ne c371
                                                                                                    · exact tsw_ne c393
                                                                                                    · exact tsw_ne c423
                                                                                                    · exact tsw_ne c449
                                                                                                    · exact tsw_ne c463
                                                                                                    · exact tsw_ne c477
                                                                                                    · exact tsw_ne c499
                                                                                                    · exact tsw_ne c513
                                                                                                    · exact tsw_ne c531
                                                                                                    · exact tsw_ne c557
                                                                                                    · exact tsw_ne c575
                                                                                                    · exact tsw_ne c593
                                                                                                    · exact tsw_ne c615
                                                                                                    · exact tsw_ne c633
                                                                                                    · exact tsw_ne c651
                                                                                                    · exact tsw_ne c665
                                                                                                    · exact tsw_ne c687
                                                                                                    · exact tsw_ne c705
                                                                                                    · exact tsw_ne c727
                                                                                                    · exact tsw_ne c745
                                                                                                    · exact tsw_ne c759
                                                                                                    · exact tsw_ne c773
                                                                                                    · exact tsw_ne c787
                                                                                                    · exact tsw_ne c801
                                                                                                    · exact tsw_ne c819
                                                                                                    · exact tsw_ne c837
                                                                                                    · exact tsw_ne c863
                                                                                                    · exact tsw_ne c877
                                                                                                  · obtain ⟨t891, e892, hf1⟩ := ob hf1
                                                                                                    refine r_iinc (lv' := [(3, .int t891), (0, .retAddr 5), (1, .ref t1), (2, .ref t6)]) C dL_law_1466 rfl e892 (by decide) rfl ?_
                                                                                                    refine r_goto (tgt := 18) C dL_law_1469 (by decide) ?_
                                                                                                    obtain rfl := so hf1
                                                                                                    refine r_subk [1, 2, 3, 0] (lv' := [(0, .retAddr 5), (1, .ref t1), (2, .ref t6), (3, .int t891)]) rfl ?_
                                                                                                    exact ih18 t891 h13 cz sz (bd_same hbd cH hL e892) hk18
  refine r_subk [3, 2, 1, 0] (lv' := [(0, .retAddr 5), (1, .ref t1), (2, .ref t6), (3, .int (0 : Int32))]) rfl ?_
  exact L18 wN (0 : Int32) h9 136 86663 (bd_0 (Nat.le_of_ble_eq_true rfl) (Nat.le_of_ble_eq_true rfl)) hl18
