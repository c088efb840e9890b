/-! ===== the law: each call ===== -/
def lwB_0 (xs : Nat → Int32) (L : Nat) (v3 : Int32) (h : aH) : Option ((Int32 × aH) ⊕ ((aH) ⊕ (aH))) := (ck h 11 0).bind fun _ => (f_X11_status h 0).bind fun t349 => (ck h 12 113).bind fun _ => (f_X12_status h 113).bind fun t350 => if t349 = t350 then (some (v3 + (6 : Int32))).bind fun t351 => some (.inl (t351, h)) else some (.inr (.inl h))
def lwB_1 (xs : Nat → Int32) (L : Nat) (v3 : Int32) (h : aH) : Option ((Int32 × aH) ⊕ ((aH) ⊕ (aH))) := (ck h 11 0).bind fun _ => (f_X11_top h 0).bind fun t346 => (ck h 12 113).bind fun _ => (f_X12_top h 113).bind fun t347 => if (lg_cmp t346 t347) = 0 then (some (v3 + (6 : Int32))).bind fun t348 => some (.inl (t348, h)) else some (.inr (.inl h))
def lwB_2 (xs : Nat → Int32) (L : Nat) (v3 : Int32) (h : aH) : Option ((Int32 × aH) ⊕ ((aH) ⊕ (aH))) := (ck h 11 0).bind fun _ => (f_X11_bottom h 0).bind fun t343 => (ck h 12 113).bind fun _ => (f_X12_bottom h 113).bind fun t344 => if (lg_cmp t343 t344) = 0 then (some (v3 + (6 : Int32))).bind fun t345 => some (.inl (t345, h)) else some (.inr (.inl h))
def lwB_3 (xs : Nat → Int32) (L : Nat) (v3 : Int32) (h : aH) : Option ((Int32 × aH) ⊕ ((aH) ⊕ (aH))) := (xld xs L (v3 + (1 : Int32))).bind fun t332 => (xld xs L (v3 + (2 : Int32))).bind fun t333 => (xld xs L (v3 + (3 : Int32))).bind fun t334 => (ck h 11 0).bind fun _ => bd2 (f_X11_tray h 0 t332 t333 t334) fun t335 h336 => (xld xs L (v3 + (1 : Int32))).bind fun t337 => (xld xs L (v3 + (2 : Int32))).bind fun t338 => (xld xs L (v3 + (3 : Int32))).bind fun t339 => (ck h336 12 113).bind fun _ => bd2 (f_X12_tray h336 113 t337 t338 t339) fun t340 h341 => if t335 = t340 then (some (v3 + (6 : Int32))).bind fun t342 => some (.inl (t342, h341)) else some (.inr (.inl h341))
def lwB_4 (xs : Nat → Int32) (L : Nat) (v3 : Int32) (h : aH) : Option ((Int32 × aH) ⊕ ((aH) ⊕ (aH))) := (xld xs L (v3 + (1 : Int32))).bind fun t319 => (xld xs L (v3 + (2 : Int32))).bind fun t320 => (xld xs L (v3 + (3 : Int32))).bind fun t321 => (xld xs L (v3 + (4 : Int32))).bind fun t322 => (ck h 11 0).bind fun _ => bd2 (f_X11_write h 0 t319 t320 (((Int32.toInt64 t321) <<< (Int32.toInt64 (32 : Int32) &&& 63)) ||| ((Int32.toInt64 t322) &&& (4294967295 : Int64)))) fun t323 h324 => (xld xs L (v3 + (1 : Int32))).bind fun t325 => (xld xs L (v3 + (2 : Int32))).bind fun t326 => (xld xs L (v3 + (3 : Int32))).bind fun t327 => (xld xs L (v3 + (4 : Int32))).bind fun t328 => (ck h324 12 113).bind fun _ => bd2 (f_X12_write h324 113 t325 t326 (((Int32.toInt64 t327) <<< (Int32.toInt64 (32 : Int32) &&& 63)) ||| ((Int32.toInt64 t328) &&& (4294967295 : Int64)))) fun t329 h330 => if t323 = t329 then (some (v3 + (6 : Int32))).bind fun t331 => some (.inl (t331, h330)) else some (.inr (.inl h330))
def lwB_5 (xs : Nat → Int32) (L : Nat) (v3 : Int32) (h : aH) : Option ((Int32 × aH) ⊕ ((aH) ⊕ (aH))) := (xld xs L (v3 + (1 : Int32))).bind fun t310 => (xld xs L (v3 + (2 : Int32))).bind fun t311 => (ck h 11 0).bind fun _ => bd2 (f_X11_read h 0 t310 t311) fun t312 h313 => (xld xs L (v3 + (1 : Int32))).bind fun t314 => (xld xs L (v3 + (2 : Int32))).bind fun t315 => (ck h313 12 113).bind fun _ => bd2 (f_X12_read h313 113 t314 t315) fun t316 h317 => if (lg_cmp t312 t316) = 0 then (some (v3 + (6 : Int32))).bind fun t318 => some (.inl (t318, h317)) else some (.inr (.inl h317))
def lwB_6 (xs : Nat → Int32) (L : Nat) (v3 : Int32) (h : aH) : Option ((Int32 × aH) ⊕ ((aH) ⊕ (aH))) := (xld xs L (v3 + (1 : Int32))).bind fun t295 => (xld xs L (v3 + (2 : Int32))).bind fun t296 => (xld xs L (v3 + (3 : Int32))).bind fun t297 => (xld xs L (v3 + (4 : Int32))).bind fun t298 => (xld xs L (v3 + (5 : Int32))).bind fun t299 => (ck h 11 0).bind fun _ => bd2 (f_X11_pour h 0 t295 t296 t297 t298 t299) fun t300 h301 => (xld xs L (v3 + (1 : Int32))).bind fun t302 => (xld xs L (v3 + (2 : Int32))).bind fun t303 => (xld xs L (v3 + (3 : Int32))).bind fun t304 => (xld xs L (v3 + (4 : Int32))).bind fun t305 => (xld xs L (v3 + (5 : Int32))).bind fun t306 => (ck h301 12 113).bind fun _ => bd2 (f_X12_pour h301 113 t302 t303 t304 t305 t306) fun t307 h308 => if t300 = t307 then (some (v3 + (6 : Int32))).bind fun t309 => some (.inl (t309, h308)) else some (.inr (.inl h308))
def lwB_7 (xs : Nat → Int32) (L : Nat) (v3 : Int32) (h : aH) : Option ((Int32 × aH) ⊕ ((aH) ⊕ (aH))) := (xld xs L (v3 + (1 : Int32))).bind fun t280 => (xld xs L (v3 + (2 : Int32))).bind fun t281 => (xld xs L (v3 + (3 : Int32))).bind fun t282 => (xld xs L (v3 + (4 : Int32))).bind fun t283 => (xld xs L (v3 + (5 : Int32))).bind fun t284 => (ck h 11 0).bind fun _ => bd2 (f_X11_feed h 0 t280 t281 t282 t283 t284) fun t285 h286 => (xld xs L (v3 + (1 : Int32))).bind fun t287 => (xld xs L (v3 + (2 : Int32))).bind fun t288 => (xld xs L (v3 + (3 : Int32))).bind fun t289 => (xld xs L (v3 + (4 : Int32))).bind fun t290 => (xld xs L (v3 + (5 : Int32))).bind fun t291 => (ck h286 12 113).bind fun _ => bd2 (f_X12_feed h286 113 t287 t288 t289 t290 t291) fun t292 h293 => if t285 = t292 then (some (v3 + (6 : Int32))).bind fun t294 => some (.inl (t294, h293)) else some (.inr (.inl h293))
def lwB_8 (xs : Nat → Int32) (L : Nat) (v3 : Int32) (h : aH) : Option ((Int32 × aH) ⊕ ((aH) ⊕ (aH))) := (xld xs L (v3 + (1 : Int32))).bind fun t273 => (ck h 11 0).bind fun _ => bd2 (f_X11_court h 0 t273) fun t274 h275 => (xld xs L (v3 + (1 : Int32))).bind fun t276 => (ck h275 12 113).bind fun _ => bd2 (f_X12_court h275 113 t276) fun t277 h278 => if t274 = t277 then (some (v3 + (6 : Int32))).bind fun t279 => some (.inl (t279, h278)) else some (.inr (.inl h278))
def lwB_9 (xs : Nat → Int32) (L : Nat) (v3 : Int32) (h : aH) : Option ((Int32 × aH) ⊕ ((aH) ⊕ (aH))) := (xld xs L (v3 + (1 : Int32))).bind fun t266 => (ck h 11 0).bind fun _ => bd2 (f_X11_plan h 0 t266) fun t267 h268 => (xld xs L (v3 + (1 : Int32))).bind fun t269 => (ck h268 12 113).bind fun _ => bd2 (f_X12_plan h268 113 t269) fun t270 h271 => if t267 = t270 then (some (v3 + (6 : Int32))).bind fun t272 => some (.inl (t272, h271)) else some (.inr (.inl h271))
def lwB_10 (xs : Nat → Int32) (L : Nat) (v3 : Int32) (h : aH) : Option ((Int32 × aH) ⊕ ((aH) ⊕ (aH))) := (xld xs L (v3 + (1 : Int32))).bind fun t261 => (ck h 11 0).bind fun _ => (f_X11_fault h 0 t261).bind fun t262 => (xld xs L (v3 + (1 : Int32))).bind fun t263 => (ck h 12 113).bind fun _ => (f_X12_fault h 113 t263).bind fun t264 => if t262 = t264 then (some (v3 + (6 : Int32))).bind fun t265 => some (.inl (t265, h)) else some (.inr (.inl h))
def lwB_11 (xs : Nat → Int32) (L : Nat) (v3 : Int32) (h : aH) : Option ((Int32 × aH) ⊕ ((aH) ⊕ (aH))) := (xld xs L (v3 + (1 : Int32))).bind fun t254 => (ck h 11 0).bind fun _ => bd2 (f_X11_told h 0 t254) fun t255 h256 => (xld xs L (v3 + (1 : Int32))).bind fun t257 => (ck h256 12 113).bind fun _ => bd2 (f_X12_told h256 113 t257) fun t258 h259 => if t255 = t258 then (some (v3 + (6 : Int32))).bind fun t260 => some (.inl (t260, h259)) else some (.inr (.inl h259))
def lwB_12 (xs : Nat → Int32) (L : Nat) (v3 : Int32) (h : aH) : Option ((Int32 × aH) ⊕ ((aH) ⊕ (aH))) := (xld xs L (v3 + (1 : Int32))).bind fun t245 => (xld xs L (v3 + (2 : Int32))).bind fun t246 => (ck h 11 0).bind fun _ => bd2 (f_X11_value h 0 t245 t246) fun t247 h248 => (xld xs L (v3 + (1 : Int32))).bind fun t249 => (xld xs L (v3 + (2 : Int32))).bind fun t250 => (ck h248 12 113).bind fun _ => bd2 (f_X12_value h248 113 t249 t250) fun t251 h252 => if t247 = t251 then (some (v3 + (6 : Int32))).bind fun t253 => some (.inl (t253, h252)) else some (.inr (.inl h252))
def lwB_13 (xs : Nat → Int32) (L : Nat) (v3 : Int32) (h : aH) : Option ((Int32 × aH) ⊕ ((aH) ⊕ (aH))) := (xld xs L (v3 + (1 : Int32))).bind fun t236 => (xld xs L (v3 + (2 : Int32))).bind fun t237 => (ck h 11 0).bind fun _ => bd2 (f_X11_world h 0 t236 t237) fun t238 h239 => (xld xs L (v3 + (1 : Int32))).bind fun t240 => (xld xs L (v3 + (2 : Int32))).bind fun t241 => (ck h239 12 113).bind fun _ => bd2 (f_X12_world h239 113 t240 t241) fun t242 h243 => if t238 = t242 then (some (v3 + (6 : Int32))).bind fun t244 => some (.inl (t244, h243)) else some (.inr (.inl h243))
def lwB_14 (xs : Nat → Int32) (L : Nat) (v3 : Int32) (h : aH) : Option ((Int32 × aH) ⊕ ((aH) ⊕ (aH))) := (xld xs L (v3 + (1 : Int32))).bind fun t229 => (ck h 11 0).bind fun _ => bd2 (f_X11_possible h 0 t229) fun t230 h231 => (xld xs L (v3 + (1 : Int32))).bind fun t232 => (ck h231 12 113).bind fun _ => bd2 (f_X12_possible h231 113 t232) fun t233 h234 => if t230 = t233 then (some (v3 + (6 : Int32))).bind fun t235 => some (.inl (t235, h234)) else some (.inr (.inl h234))
def lwB_15 (xs : Nat → Int32) (L : Nat) (v3 : Int32) (h : aH) : Option ((Int32 × aH) ⊕ ((aH) ⊕ (aH))) := (xld xs L (v3 + (1 : Int32))).bind fun t220 => (xld xs L (v3 + (2 : Int32))).bind fun t221 => (ck h 11 0).bind fun _ => bd2 (f_X11_holds h 0 t220 t221) fun t222 h223 => (xld xs L (v3 + (1 : Int32))).bind fun t224 => (xld xs L (v3 + (2 : Int32))).bind fun t225 => (ck h223 12 113).bind fun _ => bd2 (f_X12_holds h223 113 t224 t225) fun t226 h227 => if t222 = t226 then (some (v3 + (6 : Int32))).bind fun t228 => some (.inl (t228, h227)) else some (.inr (.inl h227))
def lwB_16 (xs : Nat → Int32) (L : Nat) (v3 : Int32) (h : aH) : Option ((Int32 × aH) ⊕ ((aH) ⊕ (aH))) := (xld xs L (v3 + (1 : Int32))).bind fun t213 => (ck h 11 0).bind fun _ => bd2 (f_X11_fee h 0 t213) fun t214 h215 => (xld xs L (v3 + (1 : Int32))).bind fun t216 => (ck h215 12 113).bind fun _ => bd2 (f_X12_fee h215 113 t216) fun t217 h218 => if t214 = t217 then (some (v3 + (6 : Int32))).bind fun t219 => some (.inl (t219, h218)) else some (.inr (.inl h218))
def lwB_17 (xs : Nat → Int32) (L : Nat) (v3 : Int32) (h : aH) : Option ((Int32 × aH) ⊕ ((aH) ⊕ (aH))) := (xld xs L (v3 + (1 : Int32))).bind fun t204 => (xld xs L (v3 + (2 : Int32))).bind fun t205 => (ck h 11 0).bind fun _ => bd2 (f_X11_witness h 0 t204 t205) fun t206 h207 => (xld xs L (v3 + (1 : Int32))).bind fun t208 => (xld xs L (v3 + (2 : Int32))).bind fun t209 => (ck h207 12 113).bind fun _ => bd2 (f_X12_witness h207 113 t208 t209) fun t210 h211 => if t206 = t210 then (some (v3 + (6 : Int32))).bind fun t212 => some (.inl (t212, h211)) else some (.inr (.inl h211))
def lwB_18 (xs : Nat → Int32) (L : Nat) (v3 : Int32) (h : aH) : Option ((Int32 × aH) ⊕ ((aH) ⊕ (aH))) := (xld xs L (v3 + (1 : Int32))).bind fun t191 => (xld xs L (v3 + (2 : Int32))).bind fun t192 => (xld xs L (v3 + (3 : Int32))).bind fun t193 => (xld xs L (v3 + (4 : Int32))).bind fun t194 => (ck h 11 0).bind fun _ => bd2 (f_X11_answer h 0 t191 t192 t193 t194) fun t195 h196 => (xld xs L (v3 + (1 : Int32))).bind fun t197 => (xld xs L (v3 + (2 : Int32))).bind fun t198 => (xld xs L (v3 + (3 : Int32))).bind fun t199 => (xld xs L (v3 + (4 : Int32))).bind fun t200 => (ck h196 12 113).bind fun _ => bd2 (f_X12_answer h196 113 t197 t198 t199 t200) fun t201 h202 => if t195 = t201 then (some (v3 + (6 : Int32))).bind fun t203 => some (.inl (t203, h202)) else some (.inr (.inl h202))
def lwB_19 (xs : Nat → Int32) (L : Nat) (v3 : Int32) (h : aH) : Option ((Int32 × aH) ⊕ ((aH) ⊕ (aH))) := (xld xs L (v3 + (1 : Int32))).bind fun t180 => (xld xs L (v3 + (2 : Int32))).bind fun t181 => (xld xs L (v3 + (3 : Int32))).bind fun t182 => (ck h 11 0).bind fun _ => bd2 (f_X11_hear h 0 t180 t181 t182) fun t183 h184 => (xld xs L (v3 + (1 : Int32))).bind fun t185 => (xld xs L (v3 + (2 : Int32))).bind fun t186 => (xld xs L (v3 + (3 : Int32))).bind fun t187 => (ck h184 12 113).bind fun _ => bd2 (f_X12_hear h184 113 t185 t186 t187) fun t188 h189 => if t183 = t188 then (some (v3 + (6 : Int32))).bind fun t190 => some (.inl (t190, h189)) else some (.inr (.inl h189))
def lwB_20 (xs : Nat → Int32) (L : Nat) (v3 : Int32) (h : aH) : Option ((Int32 × aH) ⊕ ((aH) ⊕ (aH))) := (ck h 11 0).bind fun _ => bd2 (f_X11_unsay h 0) fun t175 h176 => (ck h176 12 113).bind fun _ => bd2 (f_X12_unsay h176 113) fun t177 h178 => if t175 = t177 then (some (v3 + (6 : Int32))).bind fun t179 => some (.inl (t179, h178)) else some (.inr (.inl h178))
def lwB_21 (xs : Nat → Int32) (L : Nat) (v3 : Int32) (h : aH) : Option ((Int32 × aH) ⊕ ((aH) ⊕ (aH))) := (ck h 11 0).bind fun _ => bd2 (f_X11_nextDay h 0) fun t170 h171 => (ck h171 12 113).bind fun _ => bd2 (f_X12_nextDay h171 113) fun t172 h173 => if t170 = t172 then (some (v3 + (6 : Int32))).bind fun t174 => some (.inl (t174, h173)) else some (.inr (.inl h173))
def lwB_22 (xs : Nat → Int32) (L : Nat) (v3 : Int32) (h : aH) : Option ((Int32 × aH) ⊕ ((aH) ⊕ (aH))) := (xld xs L (v3 + (1 : Int32))).bind fun t161 => (xld xs L (v3 + (2 : Int32))).bind fun t162 => (ck h 11 0).bind fun _ => bd2 (f_X11_heard h 0 t161 t162) fun t163 h164 => (xld xs L (v3 + (1 : Int32))).bind fun t165 => (xld xs L (v3 + (2 : Int32))).bind fun t166 => (ck h164 12 113).bind fun _ => bd2 (f_X12_heard h164 113 t165 t166) fun t167 h168 => if t163 = t167 then (some (v3 + (6 : Int32))).bind fun t169 => some (.inl (t169, h168)) else some (.inr (.inl h168))
def lwB_23 (xs : Nat → Int32) (L : Nat) (v3 : Int32) (h : aH) : Option ((Int32 × aH) ⊕ ((aH) ⊕ (aH))) := (ck h 11 0).bind fun _ => bd2 (f_X11_left h 0) fun t156 h157 => (ck h157 12 113).bind fun _ => bd2 (f_X12_left h157 113) fun t158 h159 => if t156 = t158 then (some (v3 + (6 : Int32))).bind fun t160 => some (.inl (t160, h159)) else some (.inr (.inl h159))
def lwB_24 (xs : Nat → Int32) (L : Nat) (v3 : Int32) (h : aH) : Option ((Int32 × aH) ⊕ ((aH) ⊕ (aH))) := (xld xs L (v3 + (1 : Int32))).bind fun t149 => (ck h 11 0).bind fun _ => bd2 (f_X11_isLeft h 0 t149) fun t150 h151 => (xld xs L (v3 + (1 : Int32))).bind fun t152 => (ck h151 12 113).bind fun _ => bd2 (f_X12_isLeft h151 113 t152) fun t153 h154 => if t150 = t153 then (some (v3 + (6 : Int32))).bind fun t155 => some (.inl (t155, h154)) else some (.inr (.inl h154))
def lwB_25 (xs : Nat → Int32) (L : Nat) (v3 : Int32) (h : aH) : Option ((Int32 × aH) ⊕ ((aH) ⊕ (aH))) := (xld xs L (v3 + (1 : Int32))).bind fun t138 => (xld xs L (v3 + (2 : Int32))).bind fun t139 => (xld xs L (v3 + (3 : Int32))).bind fun t140 => (ck h 11 0).bind fun _ => bd2 (f_X11_fits h 0 t138 t139 t140) fun t141 h142 => (xld xs L (v3 + (1 : Int32))).bind fun t143 => (xld xs L (v3 + (2 : Int32))).bind fun t144 => (xld xs L (v3 + (3 : Int32))).bind fun t145 => (ck h142 12 113).bind fun _ => bd2 (f_X12_fits h142 113 t143 t144 t145) fun t146 h147 => if t141 = t146 then (some (v3 + (6 : Int32))).bind fun t148 => some (.inl (t148, h147)) else some (.inr (.inl h147))
def lwB_26 (xs : Nat → Int32) (L : Nat) (v3 : Int32) (h : aH) : Option ((Int32 × aH) ⊕ ((aH) ⊕ (aH))) := (xld xs L (v3 + (1 : Int32))).bind fun t131 => (ck h 11 0).bind fun _ => bd2 (f_X11_sure h 0 t131) fun t132 h133 => (xld xs L (v3 + (1 : Int32))).bind fun t134 => (ck h133 12 113).bind fun _ => bd2 (f_X12_sure h133 113 t134) fun t135 h136 => if t132 = t135 then (some (v3 + (6 : Int32))).bind fun t137 => some (.inl (t137, h136)) else some (.inr (.inl h136))
def lwB_27 (xs : Nat → Int32) (L : Nat) (v3 : Int32) (h : aH) : Option ((Int32 × aH) ⊕ ((aH) ⊕ (aH))) := (xld xs L (v3 + (1 : Int32))).bind fun t124 => (ck h 11 0).bind fun _ => bd2 (f_X11_chance h 0 t124) fun t125 h126 => (xld xs L (v3 + (1 : Int32))).bind fun t127 => (ck h126 12 113).bind fun _ => bd2 (f_X12_chance h126 113 t127) fun t128 h129 => if t125 = t128 then (some (v3 + (6 : Int32))).bind fun t130 => some (.inl (t130, h129)) else some (.inr (.inl h129))
def lwB_28 (xs : Nat → Int32) (L : Nat) (v3 : Int32) (h : aH) : Option ((Int32 × aH) ⊕ ((aH) ⊕ (aH))) := (xld xs L (v3 + (1 : Int32))).bind fun t115 => (xld xs L (v3 + (2 : Int32))).bind fun t116 => (ck h 11 0).bind fun _ => bd2 (f_X11_trust h 0 t115 t116) fun t117 h118 => (xld xs L (v3 + (1 : Int32))).bind fun t119 => (xld xs L (v3 + (2 : Int32))).bind fun t120 => (ck h118 12 113).bind fun _ => bd2 (f_X12_trust h118 113 t119 t120) fun t121 h122 => if t117 = t121 then (some (v3 + (6 : Int32))).bind fun t123 => some (.inl (t123, h122)) else some (.inr (.inl h122))
def lwB_29 (xs : Nat → Int32) (L : Nat) (v3 : Int32) (h : aH) : Option ((Int32 × aH) ⊕ ((aH) ⊕ (aH))) := (xld xs L (v3 + (1 : Int32))).bind fun t108 => (ck h 11 0).bind fun _ => bd2 (f_X11_because h 0 t108) fun t109 h110 => (xld xs L (v3 + (1 : Int32))).bind fun t111 => (ck h110 12 113).bind fun _ => bd2 (f_X12_because h110 113 t111) fun t112 h113 => if t109 = t112 then (some (v3 + (6 : Int32))).bind fun t114 => some (.inl (t114, h113)) else some (.inr (.inl h113))
def lwB_30 (xs : Nat → Int32) (L : Nat) (v3 : Int32) (h : aH) : Option ((Int32 × aH) ⊕ ((aH) ⊕ (aH))) := (xld xs L (v3 + (1 : Int32))).bind fun t101 => (ck h 11 0).bind fun _ => bd2 (f_X11_gave h 0 t101) fun t102 h103 => (xld xs L (v3 + (1 : Int32))).bind fun t104 => (ck h103 12 113).bind fun _ => bd2 (f_X12_gave h103 113 t104) fun t105 h106 => if t102 = t105 then (some (v3 + (6 : Int32))).bind fun t107 => some (.inl (t107, h106)) else some (.inr (.inl h106))
def lwB_31 (xs : Nat → Int32) (L : Nat) (v3 : Int32) (h : aH) : Option ((Int32 × aH) ⊕ ((aH) ⊕ (aH))) := (ck h 11 0).bind fun _ => bd2 (f_X11_fees h 0) fun t96 h97 => (ck h97 12 113).bind fun _ => bd2 (f_X12_fees h97 113) fun t98 h99 => if t96 = t98 then (some (v3 + (6 : Int32))).bind fun t100 => some (.inl (t100, h99)) else some (.inr (.inl h99))
def lwB_32 (xs : Nat → Int32) (L : Nat) (v3 : Int32) (h : aH) : Option ((Int32 × aH) ⊕ ((aH) ⊕ (aH))) := (xld xs L (v3 + (1 : Int32))).bind fun t87 => (xld xs L (v3 + (2 : Int32))).bind fun t88 => (ck h 11 0).bind fun _ => bd2 (f_X11_worst h 0 t87 t88) fun t89 h90 => (xld xs L (v3 + (1 : Int32))).bind fun t91 => (xld xs L (v3 + (2 : Int32))).bind fun t92 => (ck h90 12 113).bind fun _ => bd2 (f_X12_worst h90 113 t91 t92) fun t93 h94 => if t89 = t93 then (some (v3 + (6 : Int32))).bind fun t95 => some (.inl (t95, h94)) else some (.inr (.inl h94))
def lwB_33 (xs : Nat → Int32) (L : Nat) (v3 : Int32) (h : aH) : Option ((Int32 × aH) ⊕ ((aH) ⊕ (aH))) := (xld xs L (v3 + (1 : Int32))).bind fun t80 => (ck h 11 0).bind fun _ => bd2 (f_X11_best h 0 t80) fun t81 h82 => (xld xs L (v3 + (1 : Int32))).bind fun t83 => (ck h82 12 113).bind fun _ => bd2 (f_X12_best h82 113 t83) fun t84 h85 => if t81 = t84 then (some (v3 + (6 : Int32))).bind fun t86 => some (.inl (t86, h85)) else some (.inr (.inl h85))
def lwB_34 (xs : Nat → Int32) (L : Nat) (v3 : Int32) (h : aH) : Option ((Int32 × aH) ⊕ ((aH) ⊕ (aH))) := (xld xs L (v3 + (1 : Int32))).bind fun t71 => (xld xs L (v3 + (2 : Int32))).bind fun t72 => (ck h 11 0).bind fun _ => bd2 (f_X11_shortest h 0 t71 t72) fun t73 h74 => (xld xs L (v3 + (1 : Int32))).bind fun t75 => (xld xs L (v3 + (2 : Int32))).bind fun t76 => (ck h74 12 113).bind fun _ => bd2 (f_X12_shortest h74 113 t75 t76) fun t77 h78 => if t73 = t77 then (some (v3 + (6 : Int32))).bind fun t79 => some (.inl (t79, h78)) else some (.inr (.inl h78))
def lwB_35 (xs : Nat → Int32) (L : Nat) (v3 : Int32) (h : aH) : Option ((Int32 × aH) ⊕ ((aH) ⊕ (aH))) := (xld xs L (v3 + (1 : Int32))).bind fun t64 => (ck h 11 0).bind fun _ => bd2 (f_X11_shortestFirst h 0 t64) fun t65 h66 => (xld xs L (v3 + (1 : Int32))).bind fun t67 => (ck h66 12 113).bind fun _ => bd2 (f_X12_shortestFirst h66 113 t67) fun t68 h69 => if t65 = t68 then (some (v3 + (6 : Int32))).bind fun t70 => some (.inl (t70, h69)) else some (.inr (.inl h69))
def lwB_36 (xs : Nat → Int32) (L : Nat) (v3 : Int32) (h : aH) : Option ((Int32 × aH) ⊕ ((aH) ⊕ (aH))) := (ck h 11 0).bind fun _ => bd2 (f_X11_settled h 0) fun t59 h60 => (ck h60 12 113).bind fun _ => bd2 (f_X12_settled h60 113) fun t61 h62 => if t59 = t61 then (some (v3 + (6 : Int32))).bind fun t63 => some (.inl (t63, h62)) else some (.inr (.inl h62))
def lwB_37 (xs : Nat → Int32) (L : Nat) (v3 : Int32) (h : aH) : Option ((Int32 × aH) ⊕ ((aH) ⊕ (aH))) := (ck h 11 0).bind fun _ => bd2 (f_X11_bench h 0) fun t54 h55 => (ck h55 12 113).bind fun _ => bd2 (f_X12_bench h55 113) fun t56 h57 => if t54 = t56 then (some (v3 + (6 : Int32))).bind fun t58 => some (.inl (t58, h57)) else some (.inr (.inl h57))
def lwB_38 (xs : Nat → Int32) (L : Nat) (v3 : Int32) (h : aH) : Option ((Int32 × aH) ⊕ ((aH) ⊕ (aH))) := (ck h 11 0).bind fun _ => bd2 (f_X11_clash h 0) fun t49 h50 => (ck h50 12 113).bind fun _ => bd2 (f_X12_clash h50 113) fun t51 h52 => if t49 = t51 then (some (v3 + (6 : Int32))).bind fun t53 => some (.inl (t53, h52)) else some (.inr (.inl h52))
def lwB_39 (xs : Nat → Int32) (L : Nat) (v3 : Int32) (h : aH) : Option ((Int32 × aH) ⊕ ((aH) ⊕ (aH))) := (ck h 11 0).bind fun _ => bd2 (f_X11_liars h 0) fun t44 h45 => (ck h45 12 113).bind fun _ => bd2 (f_X12_liars h45 113) fun t46 h47 => if t44 = t46 then (some (v3 + (6 : Int32))).bind fun t48 => some (.inl (t48, h47)) else some (.inr (.inl h47))
def lwB_40 (xs : Nat → Int32) (L : Nat) (v3 : Int32) (h : aH) : Option ((Int32 × aH) ⊕ ((aH) ⊕ (aH))) := (xld xs L (v3 + (1 : Int32))).bind fun t37 => (ck h 11 0).bind fun _ => bd2 (f_X11_sit h 0 t37) fun t38 h39 => (xld xs L (v3 + (1 : Int32))).bind fun t40 => (ck h39 12 113).bind fun _ => bd2 (f_X12_sit h39 113 t40) fun t41 h42 => if t38 = t41 then (some (v3 + (6 : Int32))).bind fun t43 => some (.inl (t43, h42)) else some (.inr (.inl h42))
def lwB_41 (xs : Nat → Int32) (L : Nat) (v3 : Int32) (h : aH) : Option ((Int32 × aH) ⊕ ((aH) ⊕ (aH))) := (xld xs L (v3 + (1 : Int32))).bind fun t30 => (ck h 11 0).bind fun _ => bd2 (f_X11_sat h 0 t30) fun t31 h32 => (xld xs L (v3 + (1 : Int32))).bind fun t33 => (ck h32 12 113).bind fun _ => bd2 (f_X12_sat h32 113 t33) fun t34 h35 => if t31 = t34 then (some (v3 + (6 : Int32))).bind fun t36 => some (.inl (t36, h35)) else some (.inr (.inl h35))
def lwB_42 (xs : Nat → Int32) (L : Nat) (v3 : Int32) (h : aH) : Option ((Int32 × aH) ⊕ ((aH) ⊕ (aH))) := (xld xs L (v3 + (1 : Int32))).bind fun t19 => (xld xs L (v3 + (2 : Int32))).bind fun t20 => (xld xs L (v3 + (3 : Int32))).bind fun t21 => (ck h 11 0).bind fun _ => bd2 (f_X11_tally h 0 t19 t20 t21) fun t22 h23 => (xld xs L (v3 + (1 : Int32))).bind fun t24 => (xld xs L (v3 + (2 : Int32))).bind fun t25 => (xld xs L (v3 + (3 : Int32))).bind fun t26 => (ck h23 12 113).bind fun _ => bd2 (f_X12_tally h23 113 t24 t25 t26) fun t27 h28 => if t22 = t27 then (some (v3 + (6 : Int32))).bind fun t29 => some (.inl (t29, h28)) else some (.inr (.inl h28))
def lwB_43 (xs : Nat → Int32) (L : Nat) (v3 : Int32) (h : aH) : Option ((Int32 × aH) ⊕ ((aH) ⊕ (aH))) := (ck h 11 0).bind fun _ => bd2 (f_X11_mark h 0) fun t14 h15 => (ck h15 12 113).bind fun _ => bd2 (f_X12_mark h15 113) fun t16 h17 => if t14 = t16 then (some (v3 + (6 : Int32))).bind fun t18 => some (.inl (t18, h17)) else some (.inr (.inl h17))
def lwB_44 (xs : Nat → Int32) (L : Nat) (v3 : Int32) (h : aH) : Option ((Int32 × aH) ⊕ ((aH) ⊕ (aH))) := (ck h 11 0).bind fun _ => bd2 (f_X11_back h 0) fun t9 h10 => (ck h10 12 113).bind fun _ => bd2 (f_X12_back h10 113) fun t11 h12 => if t9 = t11 then (some (v3 + (6 : Int32))).bind fun t13 => some (.inl (t13, h12)) else some (.inr (.inl h12))
def lwC_45 (xs : Nat → Int32) (L : Nat) (v3 : Int32) (h : aH) (t7 : Int32) : Option ((Int32 × aH) ⊕ ((aH) ⊕ (aH))) := (some (v3 + (6 : Int32))).bind fun t8 => some (.inl (t8, h))
def lwC_44 (xs : Nat → Int32) (L : Nat) (v3 : Int32) (h : aH) (t7 : Int32) : Option ((Int32 × aH) ⊕ ((aH) ⊕ (aH))) := if (t7 &&& (63 : Int32)) = (44 : Int32) then lwB_44 xs L v3 h else lwC_45 xs L v3 h t7
def lwC_43 (xs : Nat → Int32) (L : Nat) (v3 : Int32) (h : aH) (t7 : Int32) : Option ((Int32 × aH) ⊕ ((aH) ⊕ (aH))) := if (t7 &&& (63 : Int32)) = (43 : Int32) then lwB_43 xs L v3 h else lwC_44 xs L v3 h t7
def lwC_42 (xs : Nat → Int32) (L : Nat) (v3 : Int32) (h : aH) (t7 : Int32) : Option ((Int32 × aH) ⊕ ((aH) ⊕ (aH))) := if (t7 &&& (63 : Int32)) = (42 : Int32) then lwB_42 xs L v3 h else lwC_43 xs L v3 h t7
def lwC_41 (xs : Nat → Int32) (L : Nat) (v3 : Int32) (h : aH) (t7 : Int32) : Option ((Int32 × aH) ⊕ ((aH) ⊕ (aH))) := if (t7 &&& (63 : Int32)) = (41 : Int32) then lwB_41 xs L v3 h else lwC_42 xs L v3 h t7
def lwC_40 (xs : Nat → Int32) (L : Nat) (v3 : Int32) (h : aH) (t7 : Int32) : Option ((Int32 × aH) ⊕ ((aH) ⊕ (aH))) := if (t7 &&& (63 : Int32)) = (40 : Int32) then lwB_40 xs L v3 h else lwC_41 xs L v3 h t7
def lwC_39 (xs : Nat → Int32) (L : Nat) (v3 : Int32) (h : aH) (t7 : Int32) : Option ((Int32 × aH) ⊕ ((aH) ⊕ (aH))) := if (t7 &&& (63 : Int32)) = (39 : Int32) then lwB_39 xs L v3 h else lwC_40 xs L v3 h t7
def lwC_38 (xs : Nat → Int32) (L : Nat) (v3 : Int32) (h : aH) (t7 : Int32) : Option ((Int32 × aH) ⊕ ((aH) ⊕ (aH))) := if (t7 &&& (63 : Int32)) = (38 : Int32) then lwB_38 xs L v3 h else lwC_39 xs L v3 h t7
def lwC_37 (xs : Nat → Int32) (L : Nat) (v3 : Int32) (h : aH) (t7 : Int32) : Option ((Int32 × aH) ⊕ ((aH) ⊕ (aH))) := if (t7 &&& (63 : Int32)) = (37 : Int32) then lwB_37 xs L v3 h else lwC_38 xs L v3 h t7
def lwC_36 (xs : Nat → Int32) (L : Nat) (v3 : Int32) (h : aH) (t7 : Int32) : Option ((Int32 × aH) ⊕ ((aH) ⊕ (aH))) := if (t7 &&& (63 : Int32)) = (36 : Int32) then lwB_36 xs L v3 h else lwC_37 xs L v3 h t7
def lwC_35 (xs : Nat → Int32) (L : Nat) (v3 : Int32) (h : aH) (t7 : Int32) : Option ((Int32 × aH) ⊕ ((aH) ⊕ (aH))) := if (t7 &&& (63 : Int32)) = (35 : Int32) then lwB_35 xs L v3 h else lwC_36 xs L v3 h t7
def lwC_34 (xs : Nat → Int32) (L : Nat) (v3 : Int32) (h : aH) (t7 : Int32) : Option ((Int32 × aH) ⊕ ((aH) ⊕ (aH))) := if (t7 &&& (63 : Int32)) = (34 : Int32) then lwB_34 xs L v3 h else lwC_35 xs L v3 h t7
def lwC_33 (xs : Nat → Int32) (L : Nat) (v3 : Int32) (h : aH) (t7 : Int32) : Option ((Int32 × aH) ⊕ ((aH) ⊕ (aH))) := if (t7 &&& (63 : Int32)) = (33 : Int32) then lwB_33 xs L v3 h else lwC_34 xs L v3 h t7
def lwC_32 (xs : Nat → Int32) (L : Nat) (v3 : Int32) (h : aH) (t7 : Int32) : Option ((Int32 × aH) ⊕ ((aH) ⊕ (aH))) := if (t7 &&& (63 : Int32)) = (32 : Int32) then lwB_32 xs L v3 h else lwC_33 xs L v3 h t7
def lwC_31 (xs : Nat → Int32) (L : Nat) (v3 : Int32) (h : aH) (t7 : Int32) : Option ((Int32 × aH) ⊕ ((aH) ⊕ (aH))) := if (t7 &&& (63 : Int32)) = (31 : Int32) then lwB_31 xs L v3 h else lwC_32 xs L v3 h t7
def lwC_30 (xs : Nat → Int32) (L : Nat) (v3 : Int32) (h : aH) (t7 : Int32) : Option ((Int32 × aH) ⊕ ((aH) ⊕ (aH))) := if (t7 &&& (63 : Int32)) = (30 : Int32) then lwB_30 xs L v3 h else lwC_31 xs L v3 h t7
def lwC_29 (xs : Nat → Int32) (L : Nat) (v3 : Int32) (h : aH) (t7 : Int32) : Option ((Int32 × aH) ⊕ ((aH) ⊕ (aH))) := if (t7 &&& (63 : Int32)) = (29 : Int32) then lwB_29 xs L v3 h else lwC_30 xs L v3 h t7
def lwC_28 (xs : Nat → Int32) (L : Nat) (v3 : Int32) (h : aH) (t7 : Int32) : Option ((Int32 × aH) ⊕ ((aH) ⊕ (aH))) := if (t7 &&& (63 : Int32)) = (28 : Int32) then lwB_28 xs L v3 h else lwC_29 xs L v3 h t7
def lwC_27 (xs : Nat → Int32) (L : Nat) (v3 : Int32) (h : aH) (t7 : Int32) : Option ((Int32 × aH) ⊕ ((aH) ⊕ (aH))) := if (t7 &&& (63 : Int32)) = (27 : Int32) then lwB_27 xs L v3 h else lwC_28 xs L v3 h t7
def lwC_26 (xs : Nat → Int32) (L : Nat) (v3 : Int32) (h : aH) (t7 : Int32) : Option ((Int32 × aH) ⊕ ((aH) ⊕ (aH))) := if (t7 &&& (63 : Int32)) = (26 : Int32) then lwB_26 xs L v3 h else lwC_27 xs L v3 h t7
def lwC_25 (xs : Nat → Int32) (L : Nat) (v3 : Int32) (h : aH) (t7 : Int32) : Option ((Int32 × aH) ⊕ ((aH) ⊕ (aH))) := if (t7 &&& (63 : Int32)) = (25 : Int32) then lwB_25 xs L v3 h else lwC_26 xs L v3 h t7
def lwC_24 (xs : Nat → Int32) (L : Nat) (v3 : Int32) (h : aH) (t7 : Int32) : Option ((Int32 × aH) ⊕ ((aH) ⊕ (aH))) := if (t7 &&& (63 : Int32)) = (24 : Int32) then lwB_24 xs L v3 h else lwC_25 xs L v3 h t7
def lwC_23 (xs : Nat → Int32) (L : Nat) (v3 : Int32) (h : aH) (t7 : Int32) : Option ((Int32 × aH) ⊕ ((aH) ⊕ (aH))) := if (t7 &&& (63 : Int32)) = (23 : Int32) then lwB_23 xs L v3 h else lwC_24 xs L v3 h t7
def lwC_22 (xs : Nat → Int32) (L : Nat) (v3 : Int32) (h : aH) (t7 : Int32) : Option ((Int32 × aH) ⊕ ((aH) ⊕ (aH))) := if (t7 &&& (63 : Int32)) = (22 : Int32) then lwB_22 xs L v3 h else lwC_23 xs L v3 h t7
def lwC_21 (xs : Nat → Int32) (L : Nat) (v3 : Int32) (h : aH) (t7 : Int32) : Option ((Int32 × aH) ⊕ ((aH) ⊕ (aH))) := if (t7 &&& (63 : Int32)) = (21 : Int32) then lwB_21 xs L v3 h else lwC_22 xs L v3 h t7
def lwC_20 (xs : Nat → Int32) (L : Nat) (v3 : Int32) (h : aH) (t7 : Int32) : Option ((Int32 × aH) ⊕ ((aH) ⊕ (aH))) := if (t7 &&& (63 : Int32)) = (20 : Int32) then lwB_20 xs L v3 h else lwC_21 xs L v3 h t7
def lwC_19 (xs : Nat → Int32) (L : Nat) (v3 : Int32) (h : aH) (t7 : Int32) : Option ((Int32 × aH) ⊕ ((aH) ⊕ (aH))) := if (t7 &&& (63 : Int32)) = (19 : Int32) then lwB_19 xs L v3 h else lwC_20 xs L v3 h t7
def lwC_18 (xs : Nat → Int32) (L : Nat) (v3 : Int32) (h : aH) (t7 : Int32) : Option ((Int32 × aH) ⊕ ((aH) ⊕ (aH))) := if (t7 &&& (63 : Int32)) = (18 : Int32) then lwB_18 xs L v3 h else lwC_19 xs L v3 h t7
def lwC_17 (xs : Nat → Int32) (L : Nat) (v3 : Int32) (h : aH) (t7 : Int32) : Option ((Int32 × aH) ⊕ ((aH) ⊕ (aH))) := if (t7 &&& (63 : Int32)) = (17 : Int32) then lwB_17 xs L v3 h else lwC_18 xs L v3 h t7
def lwC_16 (xs : Nat → Int32) (L : Nat) (v3 : Int32) (h : aH) (t7 : Int32) : Option ((Int32 × aH) ⊕ ((aH) ⊕ (aH))) := if (t7 &&& (63 : Int32)) = (16 : Int32) then lwB_16 xs L v3 h else lwC_17 xs L v3 h t7
def lwC_15 (xs : Nat → Int32) (L : Nat) (v3 : Int32) (h : aH) (t7 : Int32) : Option ((Int32 × aH) ⊕ ((aH) ⊕ (aH))) := if (t7 &&& (63 : Int32)) = (15 : Int32) then lwB_15 xs L v3 h else lwC_16 xs L v3 h t7
def lwC_14 (xs : Nat → Int32) (L : Nat) (v3 : Int32) (h : aH) (t7 : Int32) : Option ((Int32 × aH) ⊕ ((aH) ⊕ (aH))) := if (t7 &&& (63 : Int32)) = (14 : Int32) then lwB_14 xs L v3 h else lwC_15 xs L v3 h t7
def lwC_13 (xs : Nat → Int32) (L : Nat) (v3 : Int32) (h : aH) (t7 : Int32) : Option ((Int32 × aH) ⊕ ((aH) ⊕ (aH))) := if (t7 &&& (63 : Int32)) = (13 : Int32) then lwB_13 xs L v3 h else lwC_14 xs L v3 h t7
def lwC_12 (xs : Nat → Int32) (L : Nat) (v3 : Int32) (h : aH) (t7 : Int32) : Option ((Int32 × aH) ⊕ ((aH) ⊕ (aH))) := if (t7 &&& (63 : Int32)) = (12 : Int32) then lwB_12 xs L v3 h else lwC_13 xs L v3 h t7
def lwC_11 (xs : Nat → Int32) (L : Nat) (v3 : Int32) (h : aH) (t7 : Int32) : Option ((Int32 × aH) ⊕ ((aH) ⊕ (aH))) := if (t7 &&& (63 : Int32)) = (11 : Int32) then lwB_11 xs L v3 h else lwC_12 xs L v3 h t7
def lwC_10 (xs : Nat → Int32) (L : Nat) (v3 : Int32) (h : aH) (t7 : Int32) : Option ((Int32 × aH) ⊕ ((aH) ⊕ (aH))) := if (t7 &&& (63 : Int32)) = (10 : Int32) then lwB_10 xs L v3 h else lwC_11 xs L v3 h t7
def lwC_9 (xs : Nat → Int32) (L : Nat) (v3 : Int32) (h : aH) (t7 : Int32) : Option ((Int32 × aH) ⊕ ((aH) ⊕ (aH))) := if (t7 &&& (63 : Int32)) = (9 : Int32) then lwB_9 xs L v3 h else lwC_10 xs L v3 h t7
def lwC_8 (xs : Nat → Int32) (L : Nat) (v3 : Int32) (h : aH) (t7 : Int32) : Option ((Int32 × aH) ⊕ ((aH) ⊕ (aH))) := if (t7 &&& (63 : Int32)) = (8 : Int32) then lwB_8 xs L v3 h else lwC_9 xs L v3 h t7
def lwC_7 (xs : Nat → Int32) (L : Nat) (v3 : Int32) (h : aH) (t7 : Int32) : Option ((Int32 × aH) ⊕ ((aH) ⊕ (aH))) := if (t7 &&& (63 : Int32)) = (7 : Int32) then lwB_7 xs L v3 h else lwC_8 xs L v3 h t7
def lwC_6 (xs : Nat → Int32) (L : Nat) (v3 : Int32) (h : aH) (t7 : Int32) : Option ((Int32 × aH) ⊕ ((aH) ⊕ (aH))) := if (t7 &&& (63 : Int32)) = (6 : Int32) then lwB_6 xs L v3 h else lwC_7 xs L v3 h t7
def lwC_5 (xs : Nat → Int32) (L : Nat) (v3 : Int32) (h : aH) (t7 : Int32) : Option ((Int32 × aH) ⊕ ((aH) ⊕ (aH))) := if (t7 &&& (63 : Int32)) = (5 : Int32) then lwB_5 xs L v3 h else lwC_6 xs L v3 h t7
def lwC_4 (xs : Nat → Int32) (L : Nat) (v3 : Int32) (h : aH) (t7 : Int32) : Option ((Int32 × aH) ⊕ ((aH) ⊕ (aH))) := if (t7 &&& (63 : Int32)) = (4 : Int32) then lwB_4 xs L v3 h else lwC_5 xs L v3 h t7
def lwC_3 (xs : Nat → Int32) (L : Nat) (v3 : Int32) (h : aH) (t7 : Int32) : Option ((Int32 × aH) ⊕ ((aH) ⊕ (aH))) := if (t7 &&& (63 : Int32)) = (3 : Int32) then lwB_3 xs L v3 h else lwC_4 xs L v3 h t7
def lwC_2 (xs : Nat → Int32) (L : Nat) (v3 : Int32) (h : aH) (t7 : Int32) : Option ((Int32 × aH) ⊕ ((aH) ⊕ (aH))) := if (t7 &&& (63 : Int32)) = (2 : Int32) then lwB_2 xs L v3 h else lwC_3 xs L v3 h t7
def lwC_1 (xs : Nat → Int32) (L : Nat) (v3 : Int32) (h : aH) (t7 : Int32) : Option ((Int32 × aH) ⊕ ((aH) ⊕ (aH))) := if (t7 &&& (63 : Int32)) = (1 : Int32) then lwB_1 xs L v3 h else lwC_2 xs L v3 h t7
def lwC_0 (xs : Nat → Int32) (L : Nat) (v3 : Int32) (h : aH) (t7 : Int32) : Option ((Int32 × aH) ⊕ ((aH) ⊕ (aH))) := if (t7 &&& (63 : Int32)) = (0 : Int32) then lwB_0 xs L v3 h else lwC_1 xs L v3 h t7
theorem lw_cut (xs : Nat → Int32) (L : Nat) (v3 : Int32) (h : aH) : f_L_law_b18 xs L 5 0 113 v3 h = (if ((Int32.ofNat L) - (6 : Int32)) < v3 then some (.inr (.inr h)) else (xld xs L v3).bind fun t7 => lwC_0 xs L v3 h t7) := rfl
theorem no_ck {h : aH} (n : ck h 12 113 = none) {α : Type} {F : Unit → Option α} : (ck h 12 113).bind F = none := by rw [n]; rfl
theorem no_kd {h : aH} (n : ck h 12 113 = none) : ¬ kd h 113 = 12 := fun e => by
  unfold ck at n
  rw [if_pos e] at n
  cases n
theorem no_gI {h : aH} (n : ck h 12 113 = none) {α : Type} {k : Nat} {F : Int32 → Option α} : (gI h 12 113 k).bind F = none := by
  unfold gI
  rw [if_neg (no_kd n)]
  rfl
theorem no_gR {h : aH} (n : ck h 12 113 = none) {α : Type} {k : Nat} {F : Nat → Option α} : (gR h 12 113 k).bind F = none := by
  unfold gR
  rw [if_neg (no_kd n)]
  rfl
theorem no_b {α β : Type} {x : Option α} {F : α → Option β} (f : ∀ e, F e = none) : x.bind F = none := by
  cases x with
  | none => rfl
  | some e => exact f e
theorem no_if {α : Type} {c : Prop} [Decidable c] {a b : Option α} (ha : a = none) (hb : b = none) : (if c then a else b) = none := by
  by_cases e : c
  · rw [if_pos e, ha]
  · rw [if_neg e, hb]
theorem ck_some {h : aH} (n : ¬ ck h 12 113 = none) : ck h 12 113 = some () := by
  cases e : ck h 12 113 with
  | none => exact absurd e n
  | some u => rfl
theorem no_tray {h : aH} (n : ck h 12 113 = none) (a1 : Int32) (a2 : Int32) (a3 : Int32) : f_X12_tray h 113 a1 a2 a3 = none := by
  simp only [f_X12_tray, f_X12_tray_j26]
  repeat' first | with_reducible exact no_ck n | with_reducible exact no_gI n | with_reducible exact no_gR n | refine no_if ?_ ?_ | split | refine no_b fun _ => ?_
theorem no_write {h : aH} (n : ck h 12 113 = none) (a1 : Int32) (a2 : Int32) (a3 : Int64) : f_X12_write h 113 a1 a2 a3 = none := by
  unfold f_X12_write
  exact no_ck n
theorem no_read {h : aH} (n : ck h 12 113 = none) (a1 : Int32) (a2 : Int32) : f_X12_read h 113 a1 a2 = none := by
  unfold f_X12_read
  exact no_ck n
theorem no_pour {h : aH} (n : ck h 12 113 = none) (a1 : Int32) (a2 : Int32) (a3 : Int32) (a4 : Int32) (a5 : Int32) : f_X12_pour h 113 a1 a2 a3 a4 a5 = none := by
  simp only [f_X12_pour, f_X12_pour_j109, f_X12_pour_j54, f_X12_pour_j28, f_X12_pour_j143]
  repeat' first | with_reducible exact no_ck n | with_reducible exact no_gI n | with_reducible exact no_gR n | refine no_if ?_ ?_ | split | refine no_b fun _ => ?_
theorem no_feed {h : aH} (n : ck h 12 113 = none) (a1 : Int32) (a2 : Int32) (a3 : Int32) (a4 : Int32) (a5 : Int32) : f_X12_feed h 113 a1 a2 a3 a4 a5 = none := by
  unfold f_X12_feed
  exact no_gI n
theorem no_court {h : aH} (n : ck h 12 113 = none) (a1 : Int32) : f_X12_court h 113 a1 = none := by
  unfold f_X12_court
  exact no_ck n
theorem no_plan {h : aH} (n : ck h 12 113 = none) (a1 : Int32) : f_X12_plan h 113 a1 = none := by
  unfold f_X12_plan
  exact no_ck n
theorem no_told {h : aH} (n : ck h 12 113 = none) (a1 : Int32) : f_X12_told h 113 a1 = none := by
  simp only [f_X12_told, f_X12_told_j38, f_X12_told_j10]
  repeat' first | with_reducible exact no_ck n | with_reducible exact no_gI n | with_reducible exact no_gR n | refine no_if ?_ ?_ | split | refine no_b fun _ => ?_
theorem no_value {h : aH} (n : ck h 12 113 = none) (a1 : Int32) (a2 : Int32) : f_X12_value h 113 a1 a2 = none := by
  simp only [f_X12_value, f_X12_value_j45, f_X12_value_j23]
  repeat' first | with_reducible exact no_ck n | with_reducible exact no_gI n | with_reducible exact no_gR n | refine no_if ?_ ?_ | split | refine no_b fun _ => ?_
theorem no_world {h : aH} (n : ck h 12 113 = none) (a1 : Int32) (a2 : Int32) : f_X12_world h 113 a1 a2 = none := by
  unfold f_X12_world
  exact no_ck n
theorem no_possible {h : aH} (n : ck h 12 113 = none) (a1 : Int32) : f_X12_possible h 113 a1 = none := by
  unfold f_X12_possible
  exact no_ck n
theorem no_holds {h : aH} (n : ck h 12 113 = none) (a1 : Int32) (a2 : Int32) : f_X12_holds h 113 a1 a2 = none := by
  unfold f_X12_holds
  exact no_ck n
theorem no_fee {h : aH} (n : ck h 12 113 = none) (a1 : Int32) : f_X12_fee h 113 a1 = none := by
  unfold f_X12_fee
  exact no_ck n
theorem no_witness {h : aH} (n : ck h 12 113 = none) (a1 : Int32) (a2 : Int32) : f_X12_witness h 113 a1 a2 = none := by
  unfold f_X12_witness
  exact no_ck n
theorem no_answer {h : aH} (n : ck h 12 113 = none) (a1 : Int32) (a2 : Int32) (a3 : Int32) (a4 : Int32) : f_X12_answer h 113 a1 a2 a3 a4 = none := by
  unfold f_X12_answer
  exact no_ck n
theorem no_hear {h : aH} (n : ck h 12 113 = none) (a1 : Int32) (a2 : Int32) (a3 : Int32) : f_X12_hear h 113 a1 a2 a3 = none := by
  unfold f_X12_hear
  exact no_ck n
theorem no_unsay {h : aH} (n : ck h 12 113 = none) : f_X12_unsay h 113 = none := by
  unfold f_X12_unsay
  exact no_gR n
theorem no_nextDay {h : aH} (n : ck h 12 113 = none) : f_X12_nextDay h 113 = none := by
  unfold f_X12_nextDay
  exact no_gR n
theorem no_heard {h : aH} (n : ck h 12 113 = none) (a1 : Int32) (a2 : Int32) : f_X12_heard h 113 a1 a2 = none := by
  simp only [f_X12_heard, f_X12_heard_j32, f_X12_heard_j9]
  repeat' first | with_reducible exact no_ck n | with_reducible exact no_gI n | with_reducible exact no_gR n | refine no_if ?_ ?_ | split | refine no_b fun _ => ?_
theorem no_left {h : aH} (n : ck h 12 113 = none) : f_X12_left h 113 = none := by
  unfold f_X12_left
  exact no_ck n
theorem no_isLeft {h : aH} (n : ck h 12 113 = none) (a1 : Int32) : f_X12_isLeft h 113 a1 = none := by
  unfold f_X12_isLeft
  exact no_ck n
theorem no_fits {h : aH} (n : ck h 12 113 = none) (a1 : Int32) (a2 : Int32) (a3 : Int32) : f_X12_fits h 113 a1 a2 a3 = none := by
  unfold f_X12_fits
  exact no_ck n
theorem no_sure {h : aH} (n : ck h 12 113 = none) (a1 : Int32) : f_X12_sure h 113 a1 = none := by
  unfold f_X12_sure
  exact no_ck n
theorem no_chance {h : aH} (n : ck h 12 113 = none) (a1 : Int32) : f_X12_chance h 113 a1 = none := by
  unfold f_X12_chance
  exact no_ck n
theorem no_trust {h : aH} (n : ck h 12 113 = none) (a1 : Int32) (a2 : Int32) : f_X12_trust h 113 a1 a2 = none := by
  unfold f_X12_trust
  exact no_ck n
theorem no_because {h : aH} (n : ck h 12 113 = none) (a1 : Int32) : f_X12_because h 113 a1 = none := by
  unfold f_X12_because
  exact no_ck n
theorem no_gave {h : aH} (n : ck h 12 113 = none) (a1 : Int32) : f_X12_gave h 113 a1 = none := by
  simp only [f_X12_gave, f_X12_gave_j15]
  repeat' first | with_reducible exact no_ck n | with_reducible exact no_gI n | with_reducible exact no_gR n | refine no_if ?_ ?_ | split | refine no_b fun _ => ?_
theorem no_fees {h : aH} (n : ck h 12 113 = none) : f_X12_fees h 113 = none := by
  unfold f_X12_fees
  exact no_ck n
theorem no_worst {h : aH} (n : ck h 12 113 = none) (a1 : Int32) (a2 : Int32) : f_X12_worst h 113 a1 a2 = none := by
  unfold f_X12_worst
  exact no_ck n
theorem no_best {h : aH} (n : ck h 12 113 = none) (a1 : Int32) : f_X12_best h 113 a1 = none := by
  unfold f_X12_best
  exact no_ck n
theorem no_shortest {h : aH} (n : ck h 12 113 = none) (a1 : Int32) (a2 : Int32) : f_X12_shortest h 113 a1 a2 = none := by
  unfold f_X12_shortest
  exact no_ck n
theorem no_shortestFirst {h : aH} (n : ck h 12 113 = none) (a1 : Int32) : f_X12_shortestFirst h 113 a1 = none := by
  simp only [f_X12_shortestFirst, f_X12_shortestFirst_j50, f_X12_shortestFirst_j9]
  repeat' first | with_reducible exact no_ck n | with_reducible exact no_gI n | with_reducible exact no_gR n | refine no_if ?_ ?_ | split | refine no_b fun _ => ?_
theorem no_settled {h : aH} (n : ck h 12 113 = none) : f_X12_settled h 113 = none := by
  unfold f_X12_settled
  exact no_ck n
theorem no_bench {h : aH} (n : ck h 12 113 = none) : f_X12_bench h 113 = none := by
  unfold f_X12_bench
  exact no_gR n
theorem no_clash {h : aH} (n : ck h 12 113 = none) : f_X12_clash h 113 = none := by
  simp only [f_X12_clash]
  repeat' first | with_reducible exact no_ck n | with_reducible exact no_gI n | with_reducible exact no_gR n | refine no_if ?_ ?_ | split | refine no_b fun _ => ?_
theorem no_liars {h : aH} (n : ck h 12 113 = none) : f_X12_liars h 113 = none := by
  unfold f_X12_liars
  exact no_ck n
theorem no_sit {h : aH} (n : ck h 12 113 = none) (a1 : Int32) : f_X12_sit h 113 a1 = none := by
  simp only [f_X12_sit]
  repeat' first | with_reducible exact no_ck n | with_reducible exact no_gI n | with_reducible exact no_gR n | refine no_if ?_ ?_ | split | refine no_b fun _ => ?_
theorem no_sat {h : aH} (n : ck h 12 113 = none) (a1 : Int32) : f_X12_sat h 113 a1 = none := by
  simp only [f_X12_sat, f_X12_sat_j9]
  repeat' first | with_reducible exact no_ck n | with_reducible exact no_gI n | with_reducible exact no_gR n | refine no_if ?_ ?_ | split | refine no_b fun _ => ?_
theorem no_tally {h : aH} (n : ck h 12 113 = none) (a1 : Int32) (a2 : Int32) (a3 : Int32) : f_X12_tally h 113 a1 a2 a3 = none := by
  simp only [f_X12_tally, f_X12_tally_j44, f_X12_tally_j99]
  repeat' first | with_reducible exact no_ck n | with_reducible exact no_gI n | with_reducible exact no_gR n | refine no_if ?_ ?_ | split | refine no_b fun _ => ?_
theorem no_mark {h : aH} (n : ck h 12 113 = none) : f_X12_mark h 113 = none := by
  unfold f_X12_mark
  exact no_gI n
theorem no_back {h : aH} (n : ck h 12 113 = none) : f_X12_back h 113 = none := by
  unfold f_X12_back
  exact no_gI n
theorem lwo_tray {h : aH} (iv : Inv h) (a1 : Int32) (a2 : Int32) (a3 : Int32) : IO h (fun g => f_X11_tray g 0 a1 a2 a3) (fun g => f_X12_tray g 113 a1 a2 a3) := by
  obtain ⟨r, h1, h2, e1, e2, fr, tr, st⟩ := op_tray iv.1 (iv.2.2.2.2.1) a1 a2 a3
  exact ⟨r, h1, h2, e1, e2, io_tr (r := 0) iv fr tr st⟩
theorem lwo_write {h : aH} (iv : Inv h) (a1 : Int32) (a2 : Int32) (a3 : Int64) : IO h (fun g => f_X11_write g 0 a1 a2 a3) (fun g => f_X12_write g 113 a1 a2 a3) := by
  obtain ⟨r, h1, h2, e1, e2, fr, tr, st⟩ := op_write iv.1 (iv.2.2.2.2.1) a1 a2 a3
  exact ⟨r, h1, h2, e1, e2, io_tr (r := 0) iv fr tr st⟩
theorem lwo_pour {h : aH} (iv : Inv h) (a1 : Int32) (a2 : Int32) (a3 : Int32) (a4 : Int32) (a5 : Int32) : IO h (fun g => f_X11_pour g 0 a1 a2 a3 a4 a5) (fun g => f_X12_pour g 113 a1 a2 a3 a4 a5) := by
  obtain ⟨r, h1, h2, e1, e2, fr, tr, st⟩ := op_pour iv.1 (iv.2.2.2.2.1) a1 a2 a3 a4 a5
  exact ⟨r, h1, h2, e1, e2, io_tr (r := 0) iv fr tr st⟩
theorem lwo_court {h : aH} (iv : Inv h) (a1 : Int32) : IO h (fun g => f_X11_court g 0 a1) (fun g => f_X12_court g 113 a1) := by
  exact o_court iv a1
theorem lwo_plan {h : aH} (iv : Inv h) (a1 : Int32) : IO h (fun g => f_X11_plan g 0 a1) (fun g => f_X12_plan g 113 a1) := by
  refine io_p (fun b p pb => ?_) iv
  have ro := pb_ro iv.1 pb
  obtain ⟨p1, p2, ⟨s1, s2, s3, s4⟩, p4, p5, p6, ⟨r1, r2, r3⟩, p8, ⟨⟨w1, w2, w3, w4, w5, w6, w7⟩, -⟩, p10, p11, p12⟩ := pb
  exact o_plan iv.1 s1 p1 s4 (nr_0.mp r3) w3 w6 w7 (Nat.le_trans w1.2.1 (by decide)) (Nat.le_trans w1.2.2.1 (by decide)) (ro.2.1.1 3 (by decide) (by decide) (by decide) (by decide)) (ro.2.1.1 4 (by decide) (by decide) (by decide) (by decide)) (iv.2.2.2.2.2.2.2.2.2.2.2) p10 p11 p12 p8 (iv.2.2.2.2.2.2.2.2.2.1) (iv.2.2.2.2.2.2.2.2.2.2.1) a1
theorem lwo_told {h : aH} (iv : Inv h) (a1 : Int32) : IO h (fun g => f_X11_told g 0 a1) (fun g => f_X12_told g 113 a1) := by
  obtain ⟨b, p, pb⟩ := iv.2.1
  exact io_q iv (o_told (pb_ko iv.1 pb) (pb_ro iv.1 pb) a1)
theorem lwo_value {h : aH} (iv : Inv h) (a1 : Int32) (a2 : Int32) : IO h (fun g => f_X11_value g 0 a1 a2) (fun g => f_X12_value g 113 a1 a2) := by
  obtain ⟨b, p, pb⟩ := iv.2.1
  exact io_q iv (o_value (pb_ko iv.1 pb) (pb_ro iv.1 pb) a1 a2)
theorem lwo_world {h : aH} (iv : Inv h) (a1 : Int32) (a2 : Int32) : IO h (fun g => f_X11_world g 0 a1 a2) (fun g => f_X12_world g 113 a1 a2) := by
  obtain ⟨b, p, pb⟩ := iv.2.1
  exact io_q iv (o_world (pb_ko iv.1 pb) (pb_ro iv.1 pb) a1 a2)
theorem lwo_possible {h : aH} (iv : Inv h) (a1 : Int32) : IO h (fun g => f_X11_possible g 0 a1) (fun g => f_X12_possible g 113 a1) := by
  obtain ⟨b, p, pb⟩ := iv.2.1
  exact io_q iv (o_possible (pb_ko iv.1 pb) (pb_ro iv.1 pb) a1)
theorem lwo_holds {h : aH} (iv : Inv h) (a1 : Int32) (a2 : Int32) : IO h (fun g => f_X11_holds g 0 a1 a2) (fun g => f_X12_holds g 113 a1 a2) := by
  obtain ⟨b, p, pb⟩ := iv.2.1
  exact io_q iv (o_holds (pb_ko iv.1 pb) (pb_ro iv.1 pb) a1 a2)
theorem lwo_fee {h : aH} (iv : Inv h) (a1 : Int32) : IO h (fun g => f_X11_fee g 0 a1) (fun g => f_X12_fee g 113 a1) := by
  obtain ⟨b, p, pb⟩ := iv.2.1
  exact io_q iv (o_fee (pb_ko iv.1 pb) (pb_ro iv.1 pb) a1)
theorem lwo_witness {h : aH} (iv : Inv h) (a1 : Int32) (a2 : Int32) : IO h (fun g => f_X11_witness g 0 a1 a2) (fun g => f_X12_witness g 113 a1 a2) := by
  obtain ⟨b, p, pb⟩ := iv.2.1
  exact io_q iv (o_witness (pb_ko iv.1 pb) (pb_ro iv.1 pb) a1 a2)
theorem lwo_answer {h : aH} (iv : Inv h) (a1 : Int32) (a2 : Int32) (a3 : Int32) (a4 : Int32) : IO h (fun g => f_X11_answer g 0 a1 a2 a3 a4) (fun g => f_X12_answer g 113 a1 a2 a3 a4) := by
  obtain ⟨b, p, pb⟩ := iv.2.1
  exact io_q iv (o_answer (pb_ko iv.1 pb) (pb_ro iv.1 pb) a1 a2 a3 a4)
theorem lwo_hear {h : aH} (iv : Inv h) (a1 : Int32) (a2 : Int32) (a3 : Int32) : IO h (fun g => f_X11_hear g 0 a1 a2 a3) (fun g => f_X12_hear g 113 a1 a2 a3) := by
  exact io_h (fun b p pb => o_hear (pb_ko iv.1 pb) (pb_ro iv.1 pb) pb.2.2.2.2.2.2.2.2.1.2.2.1 pb.2.2.2.2.2.2.2.2.1.2.2.2 a1 a2 a3) iv
theorem lwo_unsay {h : aH} (iv : Inv h) : IO h (fun g => f_X11_unsay g 0) (fun g => f_X12_unsay g 113) := by
  exact io_h (fun b p pb => o_unsay (pb_ko iv.1 pb) (pb_ro iv.1 pb) pb.2.2.2.2.2.2.2.2.1.2.2.1 pb.2.2.2.2.2.2.2.2.1.2.2.2) iv
theorem lwo_nextDay {h : aH} (iv : Inv h) : IO h (fun g => f_X11_nextDay g 0) (fun g => f_X12_nextDay g 113) := by
  exact io_h (fun b p pb => o_nextDay (pb_ko iv.1 pb) (pb_ro iv.1 pb) pb.2.2.2.2.2.2.2.2.1.2.2.1 pb.2.2.2.2.2.2.2.2.1.2.2.2) iv
theorem lwo_heard {h : aH} (iv : Inv h) (a1 : Int32) (a2 : Int32) : IO h (fun g => f_X11_heard g 0 a1 a2) (fun g => f_X12_heard g 113 a1 a2) := by
  obtain ⟨b, p, pb⟩ := iv.2.1
  exact io_q iv (o_heard (pb_ko iv.1 pb) (pb_ro iv.1 pb) a1 a2)
theorem lwo_left {h : aH} (iv : Inv h) : IO h (fun g => f_X11_left g 0) (fun g => f_X12_left g 113) := by
  obtain ⟨b, p, pb⟩ := iv.2.1
  exact io_q iv (o_left (pb_ko iv.1 pb) (pb_ro iv.1 pb))
theorem lwo_isLeft {h : aH} (iv : Inv h) (a1 : Int32) : IO h (fun g => f_X11_isLeft g 0 a1) (fun g => f_X12_isLeft g 113 a1) := by
  obtain ⟨b, p, pb⟩ := iv.2.1
  exact io_q iv (o_isLeft (pb_ko iv.1 pb) (pb_ro iv.1 pb) a1)
theorem lwo_fits {h : aH} (iv : Inv h) (a1 : Int32) (a2 : Int32) (a3 : Int32) : IO h (fun g => f_X11_fits g 0 a1 a2 a3) (fun g => f_X12_fits g 113 a1 a2 a3) := by
  obtain ⟨b, p, pb⟩ := iv.2.1
  exact io_q iv (o_fits (pb_ko iv.1 pb) (pb_ro iv.1 pb) a1 a2 a3)
theorem lwo_sure {h : aH} (iv : Inv h) (a1 : Int32) : IO h (fun g => f_X11_sure g 0 a1) (fun g => f_X12_sure g 113 a1) := by
  obtain ⟨b, p, pb⟩ := iv.2.1
  exact io_q iv (o_sure (pb_ko iv.1 pb) (pb_ro iv.1 pb) a1)
theorem lwo_chance {h : aH} (iv : Inv h) (a1 : Int32) : IO h (fun g => f_X11_chance g 0 a1) (fun g => f_X12_chance g 113 a1) := by
  obtain ⟨b, p, pb⟩ := iv.2.1
  exact io_t iv (o_chance (pb_ko iv.1 pb) (pb_ro iv.1 pb) (iv.2.2.2.2.2.2.1) a1)
theorem lwo_trust {h : aH} (iv : Inv h) (a1 : Int32) (a2 : Int32) : IO h (fun g => f_X11_trust g 0 a1 a2) (fun g => f_X12_trust g 113 a1 a2) := by
  obtain ⟨b, p, pb⟩ := iv.2.1
  exact io_t iv (o_trust (pb_ko iv.1 pb) (pb_ro iv.1 pb) (iv.2.2.2.2.2.2.1) a1 a2)
theorem lwo_because {h : aH} (iv : Inv h) (a1 : Int32) : IO h (fun g => f_X11_because g 0 a1) (fun g => f_X12_because g 113 a1) := by
  obtain ⟨b, p, pb⟩ := iv.2.1
  exact io_q iv (o_because (pb_ko iv.1 pb) (pb_ro iv.1 pb) a1)
theorem lwo_gave {h : aH} (iv : Inv h) (a1 : Int32) : IO h (fun g => f_X11_gave g 0 a1) (fun g => f_X12_gave g 113 a1) := by
  obtain ⟨b, p, pb⟩ := iv.2.1
  exact io_q iv (o_gave (pb_ko iv.1 pb) (pb_ro iv.1 pb) a1)
theorem lwo_fees {h : aH} (iv : Inv h) : IO h (fun g => f_X11_fees g 0) (fun g => f_X12_fees g 113) := by
  obtain ⟨b, p, pb⟩ := iv.2.1
  exact io_q iv (o_fees (pb_ko iv.1 pb) (pb_ro iv.1 pb))
theorem lwo_worst {h : aH} (iv : Inv h) (a1 : Int32) (a2 : Int32) : IO h (fun g => f_X11_worst g 0 a1 a2) (fun g => f_X12_worst g 113 a1 a2) := by
  obtain ⟨b, p, pb⟩ := iv.2.1
  exact io_q iv (o_worst (pb_ko iv.1 pb) (pb_ro iv.1 pb) a1 a2)
theorem lwo_best {h : aH} (iv : Inv h) (a1 : Int32) : IO h (fun g => f_X11_best g 0 a1) (fun g => f_X12_best g 113 a1) := by
  obtain ⟨b, p, pb⟩ := iv.2.1
  exact io_q iv (o_best (pb_ko iv.1 pb) (pb_ro iv.1 pb) a1)
theorem lwo_shortest {h : aH} (iv : Inv h) (a1 : Int32) (a2 : Int32) : IO h (fun g => f_X11_shortest g 0 a1 a2) (fun g => f_X12_shortest g 113 a1 a2) := by
  obtain ⟨b, p, pb⟩ := iv.2.1
  exact io_s iv (o_shortest (pb_ko iv.1 pb) (pb_ro iv.1 pb) (iv.2.2.2.2.2.2.2.1) a1 a2)
theorem lwo_shortestFirst {h : aH} (iv : Inv h) (a1 : Int32) : IO h (fun g => f_X11_shortestFirst g 0 a1) (fun g => f_X12_shortestFirst g 113 a1) := by
  obtain ⟨b, p, pb⟩ := iv.2.1
  exact io_s iv (o_shortestFirst (pb_ko iv.1 pb) (pb_ro iv.1 pb) (iv.2.2.2.2.2.2.2.1) a1)
theorem lwo_settled {h : aH} (iv : Inv h) : IO h (fun g => f_X11_settled g 0) (fun g => f_X12_settled g 113) := by
  obtain ⟨b, p, pb⟩ := iv.2.1
  exact io_q iv (o_settled (pb_ko iv.1 pb) (pb_ro iv.1 pb))
theorem lwo_bench {h : aH} (iv : Inv h) : IO h (fun g => f_X11_bench g 0) (fun g => f_X12_bench g 113) := by
  obtain ⟨b, p, pb⟩ := iv.2.1
  exact io_q iv (o_bench (pb_ko iv.1 pb) (pb_ro iv.1 pb))
theorem lwo_clash {h : aH} (iv : Inv h) : IO h (fun g => f_X11_clash g 0) (fun g => f_X12_clash g 113) := by
  obtain ⟨b, p, pb⟩ := iv.2.1
  exact io_q iv (o_clash (pb_ko iv.1 pb) (pb_ro iv.1 pb))
theorem lwo_liars {h : aH} (iv : Inv h) : IO h (fun g => f_X11_liars g 0) (fun g => f_X12_liars g 113) := by
  obtain ⟨b, p, pb⟩ := iv.2.1
  exact io_q iv (o_liars (pb_ko iv.1 pb) (pb_ro iv.1 pb))
theorem lwo_sit {h : aH} (iv : Inv h) (a1 : Int32) : IO h (fun g => f_X11_sit g 0 a1) (fun g => f_X12_sit g 113 a1) := by
  obtain ⟨b, p, pb⟩ := iv.2.1
  exact io_i iv (o_sit (pb_ko iv.1 pb) (pb_ro iv.1 pb) pb.2.2.2.2.2.2.2.2.2.1 pb.2.2.2.2.2.2.2.2.2.2.1 pb.2.2.2.2.2.2.2.1 (iv.2.2.2.2.2.2.2.2.1) a1)
theorem lwo_sat {h : aH} (iv : Inv h) (a1 : Int32) : IO h (fun g => f_X11_sat g 0 a1) (fun g => f_X12_sat g 113 a1) := by
  obtain ⟨b, p, pb⟩ := iv.2.1
  exact io_q iv (o_sat iv.1 (iv.2.2.2.2.2.2.2.2.1) a1)
theorem lwo_tally {h : aH} (iv : Inv h) (a1 : Int32) (a2 : Int32) (a3 : Int32) : IO h (fun g => f_X11_tally g 0 a1 a2 a3) (fun g => f_X12_tally g 113 a1 a2 a3) := by
  obtain ⟨b, p, pb⟩ := iv.2.1
  exact io_i iv (o_tally (pb_ko iv.1 pb) (pb_ro iv.1 pb) pb.2.2.2.2.2.2.2.2.2.1 pb.2.2.2.2.2.2.2.2.2.2.1 pb.2.2.2.2.2.2.2.1 (iv.2.2.2.2.2.2.2.2.1) a1 a2 a3)
theorem lwo_mark {h : aH} (iv : Inv h) : IO h (fun g => f_X11_mark g 0) (fun g => f_X12_mark g 113) := by
  exact o_mark iv
theorem lwo_back {h : aH} (iv : Inv h) : IO h (fun g => f_X11_back g 0) (fun g => f_X12_back g 113) := by
  exact o_back iv
theorem lwo_read {h : aH} (iv : Inv h) (a1 a2 : Int32) : ∃ r h1 h2, f_X11_read h 0 a1 a2 = some (r, h1) ∧ f_X12_read h1 113 a1 a2 = some (r, h2) ∧ Inv h2 := by
  obtain ⟨r, h1, h2, e1, e2, fr, st⟩ := op_read iv.1 (iv.2.2.2.2.1) a1 a2
  exact ⟨r, h1, h2, e1, e2, inv_q iv (fr.mono (by simp) (by simp) (by simp) (by simp)) st⟩
theorem lwo_feed {h : aH} (iv : Inv h) (a b c d e : Int32) : IO h (fun g => f_X11_feed g 0 a b c d e) (fun g => f_X12_feed g 113 a b c d e) := by
  obtain ⟨i1, ⟨bn, p, i2⟩, i3, i4, i5, i6, i7, i8, i9, i10, i11, i12⟩ := id iv
  obtain ⟨n, hn, e1, e2, e3, e4⟩ := id i10
  by_cases hk : n + 20 ≤ 900
  · have ec := feed_c i1 hk e1 a b c d e
    have em := feed_m (h := hI (wI h 5 (put5 (h.2.1 5) n a b c d e)) 4 6 (nI (n + 20))) i1 hk e2 a b c d e
    obtain ⟨r, h1, h2, q1, q2, hf, tp⟩ := op_feed i1 i10 a b c d e
    have g1 := (Prod.mk.inj (Option.some.inj (q1.symm.trans ec))).2
    subst g1
    have g2 := (Prod.mk.inj (Option.some.inj (q2.symm.trans em))).2
    have fa : FA h2 := by
      rw [g2]
      exact i11
    have st : ST h2 := by
      rw [g2]
      exact i6
    exact ⟨r, _, h2, q1, q2, hf.lay i1, ⟨bn, p, pb_fr hf (by decide) (by decide) i2⟩, mks_fr0 hf (by decide) (by decide) (by decide) (by decide) i3, cas_fr hf i4, tr_fr hf (by decide) (by decide) (by decide) (by decide) (by decide) (by decide) i5, st, fq_fr hf (by decide) (by decide) i7, fp_fr hf (by decide) (by decide) (by decide) i8, sa_fr hf (by decide) (by decide) (by decide) (by decide) i9, tp, fa, wd_fr hf (by decide) i12⟩
  · have nk : ¬ nI n + (20 : Int32) ≤ (900 : Int32) := by
      rw [show nI n + (20 : Int32) = nI (n + 20) from nI_add n 20]
      exact nI_ge (a := 900) (by omega) (by omega)
    refine ⟨-1, h, h, ?_, ?_, iv⟩
    · show f_X11_feed h 0 a b c d e = _
      unfold f_X11_feed
      simp (decide := true) only [gR_L i1 (r := 4), gI_L i1, Option.bind_some]
      rw [e1, if_neg nk]
    · show f_X12_feed h 113 a b c d e = _
      unfold f_X12_feed
      simp (decide := true) only [gI_L i1, Option.bind_some]
      rw [e2, if_neg nk]
def LG (x : Option ((Int32 × aH) ⊕ ((aH) ⊕ (aH)))) (v : Int32) : Prop := ∃ h2, x = some (.inl (v + 6, h2)) ∧ Inv h2
theorem lw_0 {xs : Nat → Int32} {L : Nat} {v : Int32} {h : aH} {a1 a2 a3 a4 a5 : Int32} (iv : Inv h) (x1 : xld xs L (v + (1 : Int32)) = some a1) (x2 : xld xs L (v + (2 : Int32)) = some a2) (x3 : xld xs L (v + (3 : Int32)) = some a3) (x4 : xld xs L (v + (4 : Int32)) = some a4) (x5 : xld xs L (v + (5 : Int32)) = some a5) : LG (lwB_0 xs L v h) v := by
  have c1 : ck h 11 0 = some () := ck_L iv.1 (by decide) (by decide)
  have c2 : ck h 12 113 = some () := ck_L iv.1 (by decide) (by decide)
  have e1 : f_X11_status h 0 = some (h.2.1 0 17) := by
    unfold f_X11_status
    rw [gI_L iv.1 _ (by decide) (by decide)]
    rfl
  have e2 : f_X12_status h 113 = some (h.2.1 0 17) := by
    unfold f_X12_status
    rw [gI_L iv.1 _ (by decide) (by decide), show h.2.1 0 17 = h.2.1 113 3 from iv.2.2.2.2.2.1]
    rfl
  refine ⟨h, ?_, iv⟩
  unfold lwB_0
  simp only [c1, c2, e1, e2, Option.bind_some, if_true, eq_self]
theorem lw_1 {xs : Nat → Int32} {L : Nat} {v : Int32} {h : aH} {a1 a2 a3 a4 a5 : Int32} (iv : Inv h) (x1 : xld xs L (v + (1 : Int32)) = some a1) (x2 : xld xs L (v + (2 : Int32)) = some a2) (x3 : xld xs L (v + (3 : Int32)) = some a3) (x4 : xld xs L (v + (4 : Int32)) = some a4) (x5 : xld xs L (v + (5 : Int32)) = some a5) : LG (lwB_1 xs L v h) v := by
  have c1 : ck h 11 0 = some () := ck_L iv.1 (by decide) (by decide)
  have c2 : ck h 12 113 = some () := ck_L iv.1 (by decide) (by decide)
  have e1 : f_X11_top h 0 = some (h.2.2.1 0 18) := by
    unfold f_X11_top
    rw [gJ_L iv.1 _ (by decide) (by decide)]
    rfl
  have e2 : f_X12_top h 113 = some (h.2.2.1 0 18) := by
    unfold f_X12_top
    rw [gJ_L iv.1 _ (by decide) (by decide), show h.2.2.1 0 18 = h.2.2.1 113 4 from iv.2.2.2.2.2.2.1.1]
    rfl
  have z : lg_cmp (h.2.2.1 0 18) (h.2.2.1 0 18) = 0 := lcmp_e.mpr rfl
  refine ⟨h, ?_, iv⟩
  unfold lwB_1
  simp only [c1, c2, e1, e2, Option.bind_some, if_true, eq_self, z]
theorem lw_2 {xs : Nat → Int32} {L : Nat} {v : Int32} {h : aH} {a1 a2 a3 a4 a5 : Int32} (iv : Inv h) (x1 : xld xs L (v + (1 : Int32)) = some a1) (x2 : xld xs L (v + (2 : Int32)) = some a2) (x3 : xld xs L (v + (3 : Int32)) = some a3) (x4 : xld xs L (v + (4 : Int32)) = some a4) (x5 : xld xs L (v + (5 : Int32)) = some a5) : LG (lwB_2 xs L v h) v := by
  have c1 : ck h 11 0 = some () := ck_L iv.1 (by decide) (by decide)
  have c2 : ck h 12 113 = some () := ck_L iv.1 (by decide) (by decide)
  have e1 : f_X11_bottom h 0 = some (h.2.2.1 0 19) := by
    unfold f_X11_bottom
    rw [gJ_L iv.1 _ (by decide) (by decide)]
    rfl
  have e2 : f_X12_bottom h 113 = some (h.2.2.1 0 19) := by
    unfold f_X12_bottom
    rw [gJ_L iv.1 _ (by decide) (by decide), show h.2.2.1 0 19 = h.2.2.1 113 5 from iv.2.2.2.2.2.2.1.2]
    rfl
  have z : lg_cmp (h.2.2.1 0 19) (h.2.2.1 0 19) = 0 := lcmp_e.mpr rfl
  refine ⟨h, ?_, iv⟩
  unfold lwB_2
  simp only [c1, c2, e1, e2, Option.bind_some, if_true, eq_self, z]
theorem lw_3 {xs : Nat → Int32} {L : Nat} {v : Int32} {h : aH} {a1 a2 a3 a4 a5 : Int32} (iv : Inv h) (x1 : xld xs L (v + (1 : Int32)) = some a1) (x2 : xld xs L (v + (2 : Int32)) = some a2) (x3 : xld xs L (v + (3 : Int32)) = some a3) (x4 : xld xs L (v + (4 : Int32)) = some a4) (x5 : xld xs L (v + (5 : Int32)) = some a5) : LG (lwB_3 xs L v h) v := by
  have c1 : ck h 11 0 = some () := ck_L iv.1 (by decide) (by decide)
  obtain ⟨r, h1, h2, e1, e2, i2⟩ := lwo_tray iv a1 a2 a3
  replace e1 : f_X11_tray h 0 a1 a2 a3 = some (r, h1) := e1
  replace e2 : f_X12_tray h1 113 a1 a2 a3 = some (r, h2) := e2
  have c2 : ck h1 12 113 = some () := ck_some fun n => by
    rw [no_tray n] at e2
    cases e2
  refine ⟨h2, ?_, i2⟩
  unfold lwB_3
  simp only [x1, x2, x3, c1, c2, e1, e2, Option.bind_some, bd2_some, if_true, eq_self]
theorem lw_4 {xs : Nat → Int32} {L : Nat} {v : Int32} {h : aH} {a1 a2 a3 a4 a5 : Int32} (iv : Inv h) (x1 : xld xs L (v + (1 : Int32)) = some a1) (x2 : xld xs L (v + (2 : Int32)) = some a2) (x3 : xld xs L (v + (3 : Int32)) = some a3) (x4 : xld xs L (v + (4 : Int32)) = some a4) (x5 : xld xs L (v + (5 : Int32)) = some a5) : LG (lwB_4 xs L v h) v := by
  have c1 : ck h 11 0 = some () := ck_L iv.1 (by decide) (by decide)
  obtain ⟨r, h1, h2, e1, e2, i2⟩ := lwo_write iv a1 a2 (((Int32.toInt64 a3) <<< (Int32.toInt64 (32 : Int32) &&& 63)) ||| ((Int32.toInt64 a4) &&& (4294967295 : Int64)))
  replace e1 : f_X11_write h 0 a1 a2 (((Int32.toInt64 a3) <<< (Int32.toInt64 (32 : Int32) &&& 63)) ||| ((Int32.toInt64 a4) &&& (4294967295 : Int64))) = some (r, h1) := e1
  replace e2 : f_X12_write h1 113 a1 a2 (((Int32.toInt64 a3) <<< (Int32.toInt64 (32 : Int32) &&& 63)) ||| ((Int32.toInt64 a4) &&& (4294967295 : Int64))) = some (r, h2) := e2
  have c2 : ck h1 12 113 = some () := ck_some fun n => by
    rw [no_write n] at e2
    cases e2
  refine ⟨h2, ?_, i2⟩
  unfold lwB_4
  simp only [x1, x2, x3, x4, c1, c2, e1, e2, Option.bind_some, bd2_some, if_true, eq_self]
theorem lw_5 {xs : Nat → Int32} {L : Nat} {v : Int32} {h : aH} {a1 a2 a3 a4 a5 : Int32} (iv : Inv h) (x1 : xld xs L (v + (1 : Int32)) = some a1) (x2 : xld xs L (v + (2 : Int32)) = some a2) (x3 : xld xs L (v + (3 : Int32)) = some a3) (x4 : xld xs L (v + (4 : Int32)) = some a4) (x5 : xld xs L (v + (5 : Int32)) = some a5) : LG (lwB_5 xs L v h) v := by
  have c1 : ck h 11 0 = some () := ck_L iv.1 (by decide) (by decide)
  obtain ⟨r, h1, h2, e1, e2, i2⟩ := lwo_read iv a1 a2
  replace e1 : f_X11_read h 0 a1 a2 = some (r, h1) := e1
  replace e2 : f_X12_read h1 113 a1 a2 = some (r, h2) := e2
  have c2 : ck h1 12 113 = some () := ck_some fun n => by
    rw [no_read n] at e2
    cases e2
  have z : lg_cmp r r = 0 := lcmp_e.mpr rfl
  refine ⟨h2, ?_, i2⟩
  unfold lwB_5
  simp only [x1, x2, c1, c2, e1, e2, Option.bind_some, bd2_some, if_true, eq_self, z]
theorem lw_6 {xs : Nat → Int32} {L : Nat} {v : Int32} {h : aH} {a1 a2 a3 a4 a5 : Int32} (iv : Inv h) (x1 : xld xs L (v + (1 : Int32)) = some a1) (x2 : xld xs L (v + (2 : Int32)) = some a2) (x3 : xld xs L (v + (3 : Int32)) = some a3) (x4 : xld xs L (v + (4 : Int32)) = some a4) (x5 : xld xs L (v + (5 : Int32)) = some a5) : LG (lwB_6 xs L v h) v := by
  have c1 : ck h 11 0 = some () := ck_L iv.1 (by decide) (by decide)
  obtain ⟨r, h1, h2, e1, e2, i2⟩ := lwo_pour iv a1 a2 a3 a4 a5
  replace e1 : f_X11_pour h 0 a1 a2 a3 a4 a5 = some (r, h1) := e1
  replace e2 : f_X12_pour h1 113 a1 a2 a3 a4 a5 = some (r, h2) := e2
  have c2 : ck h1 12 113 = some () := ck_some fun n => by
    rw [no_pour n] at e2
    cases e2
  refine ⟨h2, ?_, i2⟩
  unfold lwB_6
  simp only [x1, x2, x3, x4, x5, c1, c2, e1, e2, Option.bind_some, bd2_some, if_true, eq_self]
theorem lw_7 {xs : Nat → Int32} {L : Nat} {v : Int32} {h : aH} {a1 a2 a3 a4 a5 : Int32} (iv : Inv h) (x1 : xld xs L (v + (1 : Int32)) = some a1) (x2 : xld xs L (v + (2 : Int32)) = some a2) (x3 : xld xs L (v + (3 : Int32)) = some a3) (x4 : xld xs L (v + (4 : Int32)) = some a4) (x5 : xld xs L (v + (5 : Int32)) = some a5) : LG (lwB_7 xs L v h) v := by
  have c1 : ck h 11 0 = some () := ck_L iv.1 (by decide) (by decide)
  obtain ⟨r, h1, h2, e1, e2, i2⟩ := lwo_feed iv a1 a2 a3 a4 a5
  replace e1 : f_X11_feed h 0 a1 a2 a3 a4 a5 = some (r, h1) := e1
  replace e2 : f_X12_feed h1 113 a1 a2 a3 a4 a5 = some (r, h2) := e2
  have c2 : ck h1 12 113 = some () := ck_some fun n => by
    rw [no_feed n] at e2
    cases e2
  refine ⟨h2, ?_, i2⟩
  unfold lwB_7
  simp only [x1, x2, x3, x4, x5, c1, c2, e1, e2, Option.bind_some, bd2_some, if_true, eq_self]
theorem lw_8 {xs : Nat → Int32} {L : Nat} {v : Int32} {h : aH} {a1 a2 a3 a4 a5 : Int32} (iv : Inv h) (x1 : xld xs L (v + (1 : Int32)) = some a1) (x2 : xld xs L (v + (2 : Int32)) = some a2) (x3 : xld xs L (v + (3 : Int32)) = some a3) (x4 : xld xs L (v + (4 : Int32)) = some a4) (x5 : xld xs L (v + (5 : Int32)) = some a5) : LG (lwB_8 xs L v h) v := by
  have c1 : ck h 11 0 = some () := ck_L iv.1 (by decide) (by decide)
  obtain ⟨r, h1, h2, e1, e2, i2⟩ := lwo_court iv a1
  replace e1 : f_X11_court h 0 a1 = some (r, h1) := e1
  replace e2 : f_X12_court h1 113 a1 = some (r, h2) := e2
  have c2 : ck h1 12 113 = some () := ck_some fun n => by
    rw [no_court n] at e2
    cases e2
  refine ⟨h2, ?_, i2⟩
  unfold lwB_8
  simp only [x1, c1, c2, e1, e2, Option.bind_some, bd2_some, if_true, eq_self]
theorem lw_9 {xs : Nat → Int32} {L : Nat} {v : Int32} {h : aH} {a1 a2 a3 a4 a5 : Int32} (iv : Inv h) (x1 : xld xs L (v + (1 : Int32)) = some a1) (x2 : xld xs L (v + (2 : Int32)) = some a2) (x3 : xld xs L (v + (3 : Int32)) = some a3) (x4 : xld xs L (v + (4 : Int32)) = some a4) (x5 : xld xs L (v + (5 : Int32)) = some a5) : LG (lwB_9 xs L v h) v := by
  have c1 : ck h 11 0 = some () := ck_L iv.1 (by decide) (by decide)
  obtain ⟨r, h1, h2, e1, e2, i2⟩ := lwo_plan iv a1
  replace e1 : f_X11_plan h 0 a1 = some (r, h1) := e1
  replace e2 : f_X12_plan h1 113 a1 = some (r, h2) := e2
  have c2 : ck h1 12 113 = some () := ck_some fun n => by
    rw [no_plan n] at e2
    cases e2
  refine ⟨h2, ?_, i2⟩
  unfold lwB_9
  simp only [x1, c1, c2, e1, e2, Option.bind_some, bd2_some, if_true, eq_self]
theorem lw_10 {xs : Nat → Int32} {L : Nat} {v : Int32} {h : aH} {a1 a2 a3 a4 a5 : Int32} (iv : Inv h) (x1 : xld xs L (v + (1 : Int32)) = some a1) (x2 : xld xs L (v + (2 : Int32)) = some a2) (x3 : xld xs L (v + (3 : Int32)) = some a3) (x4 : xld xs L (v + (4 : Int32)) = some a4) (x5 : xld xs L (v + (5 : Int32)) = some a5) : LG (lwB_10 xs L v h) v := by
  have c1 : ck h 11 0 = some () := ck_L iv.1 (by decide) (by decide)
  have c2 : ck h 12 113 = some () := ck_L iv.1 (by decide) (by decide)
  obtain ⟨r, e1, e2⟩ : ∃ r, f_X11_fault h 0 a1 = some r ∧ f_X12_fault h 113 a1 = some r := by
    have g3 : gR h 11 0 3 = some 4 := gR_L iv.1 (by decide) (by decide) (by decide)
    have g12 : gI h 4 4 12 = some (h.2.1 4 12) := gI_L iv.1 _ (by decide) (by decide)
    have g13 : gI h 4 4 13 = some (h.2.1 4 13) := gI_L iv.1 _ (by decide) (by decide)
    have g17 : gI h 12 113 17 = some (h.2.1 4 12) := by rw [gI_L iv.1 _ (by decide) (by decide), show h.2.1 4 12 = h.2.1 113 17 from (iv.2.2.2.2.2.2.2.2.2.2.1).1]
    have g18 : gI h 12 113 18 = some (h.2.1 4 13) := by rw [gI_L iv.1 _ (by decide) (by decide), show h.2.1 4 13 = h.2.1 113 18 from (iv.2.2.2.2.2.2.2.2.2.2.1).2]
    unfold f_X11_fault f_X12_fault
    simp only [g3, g12, g13, g17, g18, Option.bind_some]
    by_cases y0 : a1 = 0
    · exact ⟨_, if_pos y0, if_pos y0⟩
    · rw [if_neg y0]
      by_cases y1 : a1 = 1
      · exact ⟨_, if_pos y1, if_pos y1⟩
      · exact ⟨_, if_neg y1, if_neg y1⟩
  refine ⟨h, ?_, iv⟩
  unfold lwB_10
  simp only [x1, c1, c2, e1, e2, Option.bind_some, if_true, eq_self]
theorem lw_11 {xs : Nat → Int32} {L : Nat} {v : Int32} {h : aH} {a1 a2 a3 a4 a5 : Int32} (iv : Inv h) (x1 : xld xs L (v + (1 : Int32)) = some a1) (x2 : xld xs L (v + (2 : Int32)) = some a2) (x3 : xld xs L (v + (3 : Int32)) = some a3) (x4 : xld xs L (v + (4 : Int32)) = some a4) (x5 : xld xs L (v + (5 : Int32)) = some a5) : LG (lwB_11 xs L v h) v := by
  have c1 : ck h 11 0 = some () := ck_L iv.1 (by decide) (by decide)
  obtain ⟨r, h1, h2, e1, e2, i2⟩ := lwo_told iv a1
  replace e1 : f_X11_told h 0 a1 = some (r, h1) := e1
  replace e2 : f_X12_told h1 113 a1 = some (r, h2) := e2
  have c2 : ck h1 12 113 = some () := ck_some fun n => by
    rw [no_told n] at e2
    cases e2
  refine ⟨h2, ?_, i2⟩
  unfold lwB_11
  simp only [x1, c1, c2, e1, e2, Option.bind_some, bd2_some, if_true, eq_self]
theorem lw_12 {xs : Nat → Int32} {L : Nat} {v : Int32} {h : aH} {a1 a2 a3 a4 a5 : Int32} (iv : Inv h) (x1 : xld xs L (v + (1 : Int32)) = some a1) (x2 : xld xs L (v + (2 : Int32)) = some a2) (x3 : xld xs L (v + (3 : Int32)) = some a3) (x4 : xld xs L (v + (4 : Int32)) = some a4) (x5 : xld xs L (v + (5 : Int32)) = some a5) : LG (lwB_12 xs L v h) v := by
  have c1 : ck h 11 0 = some () := ck_L iv.1 (by decide) (by decide)
  obtain ⟨r, h1, h2, e1, e2, i2⟩ := lwo_value iv a1 a2
  replace e1 : f_X11_value h 0 a1 a2 = some (r, h1) := e1
  replace e2 : f_X12_value h1 113 a1 a2 = some (r, h2) := e2
  have c2 : ck h1 12 113 = some () := ck_some fun n => by
    rw [no_value n] at e2
    cases e2
  refine ⟨h2, ?_, i2⟩
  unfold lwB_12
  simp only [x1, x2, c1, c2, e1, e2, Option.bind_some, bd2_some, if_true, eq_self]
theorem lw_13 {xs : Nat → Int32} {L : Nat} {v : Int32} {h : aH} {a1 a2 a3 a4 a5 : Int32} (iv : Inv h) (x1 : xld xs L (v + (1 : Int32)) = some a1) (x2 : xld xs L (v + (2 : Int32)) = some a2) (x3 : xld xs L (v + (3 : Int32)) = some a3) (x4 : xld xs L (v + (4 : Int32)) = some a4) (x5 : xld xs L (v + (5 : Int32)) = some a5) : LG (lwB_13 xs L v h) v := by
  have c1 : ck h 11 0 = some () := ck_L iv.1 (by decide) (by decide)
  obtain ⟨r, h1, h2, e1, e2, i2⟩ := lwo_world iv a1 a2
  replace e1 : f_X11_world h 0 a1 a2 = some (r, h1) := e1
  replace e2 : f_X12_world h1 113 a1 a2 = some (r, h2) := e2
  have c2 : ck h1 12 113 = some () := ck_some fun n => by
    rw [no_world n] at e2
    cases e2
  refine ⟨h2, ?_, i2⟩
  unfold lwB_13
  simp only [x1, x2, c1, c2, e1, e2, Option.bind_some, bd2_some, if_true, eq_self]
theorem lw_14 {xs : Nat → Int32} {L : Nat} {v : Int32} {h : aH} {a1 a2 a3 a4 a5 : Int32} (iv : Inv h) (x1 : xld xs L (v + (1 : Int32)) = some a1) (x2 : xld xs L (v + (2 : Int32)) = some a2) (x3 : xld xs L (v + (3 : Int32)) = some a3) (x4 : xld xs L (v + (4 : Int32)) = some a4) (x5 : xld xs L (v + (5 : Int32)) = some a5) : LG (lwB_14 xs L v h) v := by
  have c1 : ck h 11 0 = some () := ck_L iv.1 (by decide) (by decide)
  obtain ⟨r, h1, h2, e1, e2, i2⟩ := lwo_possible iv a1
  replace e1 : f_X11_possible h 0 a1 = some (r, h1) := e1
  replace e2 : f_X12_possible h1 113 a1 = some (r, h2) := e2
  have c2 : ck h1 12 113 = some () := ck_some fun n => by
    rw [no_possible n] at e2
    cases e2
  refine ⟨h2, ?_, i2⟩
  unfold lwB_14
  simp only [x1, c1, c2, e1, e2, Option.bind_some, bd2_some, if_true, eq_self]
theorem lw_15 {xs : Nat → Int32} {L : Nat} {v : Int32} {h : aH} {a1 a2 a3 a4 a5 : Int32} (iv : Inv h) (x1 : xld xs L (v + (1 : Int32)) = some a1) (x2 : xld xs L (v + (2 : Int32)) = some a2) (x3 : xld xs L (v + (3 : Int32)) = some a3) (x4 : xld xs L (v + (4 : Int32)) = some a4) (x5 : xld xs L (v + (5 : Int32)) = some a5) : LG (lwB_15 xs L v h) v := by
  have c1 : ck h 11 0 = some () := ck_L iv.1 (by decide) (by decide)
  obtain ⟨r, h1, h2, e1, e2, i2⟩ := lwo_holds iv a1 a2
  replace e1 : f_X11_holds h 0 a1 a2 = some (r, h1) := e1
  replace e2 : f_X12_holds h1 113 a1 a2 = some (r, h2) := e2
  have c2 : ck h1 12 113 = some () := ck_some fun n => by
    rw [no_holds n] at e2
    cases e2
  refine ⟨h2, ?_, i2⟩
  unfold lwB_15
  simp only [x1, x2, c1, c2, e1, e2, Option.bind_some, bd2_some, if_true, eq_self]
theorem lw_16 {xs : Nat → Int32} {L : Nat} {v : Int32} {h : aH} {a1 a2 a3 a4 a5 : Int32} (iv : Inv h) (x1 : xld xs L (v + (1 : Int32)) = some a1) (x2 : xld xs L (v + (2 : Int32)) = some a2) (x3 : xld xs L (v + (3 : Int32)) = some a3) (x4 : xld xs L (v + (4 : Int32)) = some a4) (x5 : xld xs L (v + (5 : Int32)) = some a5) : LG (lwB_16 xs L v h) v := by
  have c1 : ck h 11 0 = some () := ck_L iv.1 (by decide) (by decide)
  obtain ⟨r, h1, h2, e1, e2, i2⟩ := lwo_fee iv a1
  replace e1 : f_X11_fee h 0 a1 = some (r, h1) := e1
  replace e2 : f_X12_fee h1 113 a1 = some (r, h2) := e2
  have c2 : ck h1 12 113 = some () := ck_some fun n => by
    rw [no_fee n] at e2
    cases e2
  refine ⟨h2, ?_, i2⟩
  unfold lwB_16
  simp only [x1, c1, c2, e1, e2, Option.bind_some, bd2_some, if_true, eq_self]
theorem lw_17 {xs : Nat → Int32} {L : Nat} {v : Int32} {h : aH} {a1 a2 a3 a4 a5 : Int32} (iv : Inv h) (x1 : xld xs L (v + (1 : Int32)) = some a1) (x2 : xld xs L (v + (2 : Int32)) = some a2) (x3 : xld xs L (v + (3 : Int32)) = some a3) (x4 : xld xs L (v + (4 : Int32)) = some a4) (x5 : xld xs L (v + (5 : Int32)) = some a5) : LG (lwB_17 xs L v h) v := by
  have c1 : ck h 11 0 = some () := ck_L iv.1 (by decide) (by decide)
  obtain ⟨r, h1, h2, e1, e2, i2⟩ := lwo_witness iv a1 a2
  replace e1 : f_X11_witness h 0 a1 a2 = some (r, h1) := e1
  replace e2 : f_X12_witness h1 113 a1 a2 = some (r, h2) := e2
  have c2 : ck h1 12 113 = some () := ck_some fun n => by
    rw [no_witness n] at e2
    cases e2
  refine ⟨h2, ?_, i2⟩
  unfold lwB_17
  simp only [x1, x2, c1, c2, e1, e2, Option.bind_some, bd2_some, if_true, eq_self]
theorem lw_18 {xs : Nat → Int32} {L : Nat} {v : Int32} {h : aH} {a1 a2 a3 a4 a5 : Int32} (iv : Inv h) (x1 : xld xs L (v + (1 : Int32)) = some a1) (x2 : xld xs L (v + (2 : Int32)) = some a2) (x3 : xld xs L (v + (3 : Int32)) = some a3) (x4 : xld xs L (v + (4 : Int32)) = some a4) (x5 : xld xs L (v + (5 : Int32)) = some a5) : LG (lwB_18 xs L v h) v := by
  have c1 : ck h 11 0 = some () := ck_L iv.1 (by decide) (by decide)
  obtain ⟨r, h1, h2, e1, e2, i2⟩ := lwo_answer iv a1 a2 a3 a4
  replace e1 : f_X11_answer h 0 a1 a2 a3 a4 = some (r, h1) := e1
  replace e2 : f_X12_answer h1 113 a1 a2 a3 a4 = some (r, h2) := e2
  have c2 : ck h1 12 113 = some () := ck_some fun n => by
    rw [no_answer n] at e2
    cases e2
  refine ⟨h2, ?_, i2⟩
  unfold lwB_18
  simp only [x1, x2, x3, x4, c1, c2, e1, e2, Option.bind_some, bd2_some, if_true, eq_self]
theorem lw_19 {xs : Nat → Int32} {L : Nat} {v : Int32} {h : aH} {a1 a2 a3 a4 a5 : Int32} (iv : Inv h) (x1 : xld xs L (v + (1 : Int32)) = some a1) (x2 : xld xs L (v + (2 : Int32)) = some a2) (x3 : xld xs L (v + (3 : Int32)) = some a3) (x4 : xld xs L (v + (4 : Int32)) = some a4) (x5 : xld xs L (v + (5 : Int32)) = some a5) : LG (lwB_19 xs L v h) v := by
  have c1 : ck h 11 0 = some () := ck_L iv.1 (by decide) (by decide)
  obtain ⟨r, h1, h2, e1, e2, i2⟩ := lwo_hear iv a1 a2 a3
  replace e1 : f_X11_hear h 0 a1 a2 a3 = some (r, h1) := e1
  replace e2 : f_X12_hear h1 113 a1 a2 a3 = some (r, h2) := e2
  have c2 : ck h1 12 113 = some () := ck_some fun n => by
    rw [no_hear n] at e2
    cases e2
  refine ⟨h2, ?_, i2⟩
  unfold lwB_19
  simp only [x1, x2, x3, c1, c2, e1, e2, Option.bind_some, bd2_some, if_true, eq_self]
theorem lw_20 {xs : Nat → Int32} {L : Nat} {v : Int32} {h : aH} {a1 a2 a3 a4 a5 : Int32} (iv : Inv h) (x1 : xld xs L (v + (1 : Int32)) = some a1) (x2 : xld xs L (v + (2 : Int32)) = some a2) (x3 : xld xs L (v + (3 : Int32)) = some a3) (x4 : xld xs L (v + (4 : Int32)) = some a4) (x5 : xld xs L (v + (5 : Int32)) = some a5) : LG (lwB_20 xs L v h) v := by
  have c1 : ck h 11 0 = some () := ck_L iv.1 (by decide) (by decide)
  obtain ⟨r, h1, h2, e1, e2, i2⟩ := lwo_unsay iv
  replace e1 : f_X11_unsay h 0 = some (r, h1) := e1
  replace e2 : f_X12_unsay h1 113 = some (r, h2) := e2
  have c2 : ck h1 12 113 = some () := ck_some fun n => by
    rw [no_unsay n] at e2
    cases e2
  refine ⟨h2, ?_, i2⟩
  unfold lwB_20
  simp only [c1, c2, e1, e2, Option.bind_some, bd2_some, if_true, eq_self]
theorem lw_21 {xs : Nat → Int32} {L : Nat} {v : Int32} {h : aH} {a1 a2 a3 a4 a5 : Int32} (iv : Inv h) (x1 : xld xs L (v + (1 : Int32)) = some a1) (x2 : xld xs L (v + (2 : Int32)) = some a2) (x3 : xld xs L (v + (3 : Int32)) = some a3) (x4 : xld xs L (v + (4 : Int32)) = some a4) (x5 : xld xs L (v + (5 : Int32)) = some a5) : LG (lwB_21 xs L v h) v := by
  have c1 : ck h 11 0 = some () := ck_L iv.1 (by decide) (by decide)
  obtain ⟨r, h1, h2, e1, e2, i2⟩ := lwo_nextDay iv
  replace e1 : f_X11_nextDay h 0 = some (r, h1) := e1
  replace e2 : f_X12_nextDay h1 113 = some (r, h2) := e2
  have c2 : ck h1 12 113 = some () := ck_some fun n => by
    rw [no_nextDay n] at e2
    cases e2
  refine ⟨h2, ?_, i2⟩
  unfold lwB_21
  simp only [c1, c2, e1, e2, Option.bind_some, bd2_some, if_true, eq_self]
theorem lw_22 {xs : Nat → Int32} {L : Nat} {v : Int32} {h : aH} {a1 a2 a3 a4 a5 : Int32} (iv : Inv h) (x1 : xld xs L (v + (1 : Int32)) = some a1) (x2 : xld xs L (v + (2 : Int32)) = some a2) (x3 : xld xs L (v + (3 : Int32)) = some a3) (x4 : xld xs L (v + (4 : Int32)) = some a4) (x5 : xld xs L (v + (5 : Int32)) = some a5) : LG (lwB_22 xs L v h) v := by
  have c1 : ck h 11 0 = some () := ck_L iv.1 (by decide) (by decide)
  obtain ⟨r, h1, h2, e1, e2, i2⟩ := lwo_heard iv a1 a2
  replace e1 : f_X11_heard h 0 a1 a2 = some (r, h1) := e1
  replace e2 : f_X12_heard h1 113 a1 a2 = some (r, h2) := e2
  have c2 : ck h1 12 113 = some () := ck_some fun n => by
    rw [no_heard n] at e2
    cases e2
  refine ⟨h2, ?_, i2⟩
  unfold lwB_22
  simp only [x1, x2, c1, c2, e1, e2, Option.bind_some, bd2_some, if_true, eq_self]
theorem lw_23 {xs : Nat → Int32} {L : Nat} {v : Int32} {h : aH} {a1 a2 a3 a4 a5 : Int32} (iv : Inv h) (x1 : xld xs L (v + (1 : Int32)) = some a1) (x2 : xld xs L (v + (2 : Int32)) = some a2) (x3 : xld xs L (v + (3 : Int32)) = some a3) (x4 : xld xs L (v + (4 : Int32)) = some a4) (x5 : xld xs L (v + (5 : Int32)) = some a5) : LG (lwB_23 xs L v h) v := by
  have c1 : ck h 11 0 = some () := ck_L iv.1 (by decide) (by decide)
  obtain ⟨r, h1, h2, e1, e2, i2⟩ := lwo_left iv
  replace e1 : f_X11_left h 0 = some (r, h1) := e1
  replace e2 : f_X12_left h1 113 = some (r, h2) := e2
  have c2 : ck h1 12 113 = some () := ck_some fun n => by
    rw [no_left n] at e2
    cases e2
  refine ⟨h2, ?_, i2⟩
  unfold lwB_23
  simp only [c1, c2, e1, e2, Option.bind_some, bd2_some, if_true, eq_self]
theorem lw_24 {xs : Nat → Int32} {L : Nat} {v : Int32} {h : aH} {a1 a2 a3 a4 a5 : Int32} (iv : Inv h) (x1 : xld xs L (v + (1 : Int32)) = some a1) (x2 : xld xs L (v + (2 : Int32)) = some a2) (x3 : xld xs L (v + (3 : Int32)) = some a3) (x4 : xld xs L (v + (4 : Int32)) = some a4) (x5 : xld xs L (v + (5 : Int32)) = some a5) : LG (lwB_24 xs L v h) v := by
  have c1 : ck h 11 0 = some () := ck_L iv.1 (by decide) (by decide)
  obtain ⟨r, h1, h2, e1, e2, i2⟩ := lwo_isLeft iv a1
  replace e1 : f_X11_isLeft h 0 a1 = some (r, h1) := e1
  replace e2 : f_X12_isLeft h1 113 a1 = some (r, h2) := e2
  have c2 : ck h1 12 113 = some () := ck_some fun n => by
    rw [no_isLeft n] at e2
    cases e2
  refine ⟨h2, ?_, i2⟩
  unfold lwB_24
  simp only [x1, c1, c2, e1, e2, Option.bind_some, bd2_some, if_true, eq_self]
theorem lw_25 {xs : Nat → Int32} {L : Nat} {v : Int32} {h : aH} {a1 a2 a3 a4 a5 : Int32} (iv : Inv h) (x1 : xld xs L (v + (1 : Int32)) = some a1) (x2 : xld xs L (v + (2 : Int32)) = some a2) (x3 : xld xs L (v + (3 : Int32)) = some a3) (x4 : xld xs L (v + (4 : Int32)) = some a4) (x5 : xld xs L (v + (5 : Int32)) = some a5) : LG (lwB_25 xs L v h) v := by
  have c1 : ck h 11 0 = some () := ck_L iv.1 (by decide) (by decide)
  obtain ⟨r, h1, h2, e1, e2, i2⟩ := lwo_fits iv a1 a2 a3
  replace e1 : f_X11_fits h 0 a1 a2 a3 = some (r, h1) := e1
  replace e2 : f_X12_fits h1 113 a1 a2 a3 = some (r, h2) := e2
  have c2 : ck h1 12 113 = some () := ck_some fun n => by
    rw [no_fits n] at e2
    cases e2
  refine ⟨h2, ?_, i2⟩
  unfold lwB_25
  simp only [x1, x2, x3, c1, c2, e1, e2, Option.bind_some, bd2_some, if_true, eq_self]
theorem lw_26 {xs : Nat → Int32} {L : Nat} {v : Int32} {h : aH} {a1 a2 a3 a4 a5 : Int32} (iv : Inv h) (x1 : xld xs L (v + (1 : Int32)) = some a1) (x2 : xld xs L (v + (2 : Int32)) = some a2) (x3 : xld xs L (v + (3 : Int32)) = some a3) (x4 : xld xs L (v + (4 : Int32)) = some a4) (x5 : xld xs L (v + (5 : Int32)) = some a5) : LG (lwB_26 xs L v h) v := by
  have c1 : ck h 11 0 = some () := ck_L iv.1 (by decide) (by decide)
  obtain ⟨r, h1, h2, e1, e2, i2⟩ := lwo_sure iv a1
  replace e1 : f_X11_sure h 0 a1 = some (r, h1) := e1
  replace e2 : f_X12_sure h1 113 a1 = some (r, h2) := e2
  have c2 : ck h1 12 113 = some () := ck_some fun n => by
    rw [no_sure n] at e2
    cases e2
  refine ⟨h2, ?_, i2⟩
  unfold lwB_26
  simp only [x1, c1, c2, e1, e2, Option.bind_some, bd2_some, if_true, eq_self]
theorem lw_27 {xs : Nat → Int32} {L : Nat} {v : Int32} {h : aH} {a1 a2 a3 a4 a5 : Int32} (iv : Inv h) (x1 : xld xs L (v + (1 : Int32)) = some a1) (x2 : xld xs L (v + (2 : Int32)) = some a2) (x3 : xld xs L (v + (3 : Int32)) = some a3) (x4 : xld xs L (v + (4 : Int32)) = some a4) (x5 : xld xs L (v + (5 : Int32)) = some a5) : LG (lwB_27 xs L v h) v := by
  have c1 : ck h 11 0 = some () := ck_L iv.1 (by decide) (by decide)
  obtain ⟨r, h1, h2, e1, e2, i2⟩ := lwo_chance iv a1
  replace e1 : f_X11_chance h 0 a1 = some (r, h1) := e1
  replace e2 : f_X12_chance h1 113 a1 = some (r, h2) := e2
  have c2 : ck h1 12 113 = some () := ck_some fun n => by
    rw [no_chance n] at e2
    cases e2
  refine ⟨h2, ?_, i2⟩
  unfold lwB_27
  simp only [x1, c1, c2, e1, e2, Option.bind_some, bd2_some, if_true, eq_self]
theorem lw_28 {xs : Nat → Int32} {L : Nat} {v : Int32} {h : aH} {a1 a2 a3 a4 a5 : Int32} (iv : Inv h) (x1 : xld xs L (v + (1 : Int32)) = some a1) (x2 : xld xs L (v + (2 : Int32)) = some a2) (x3 : xld xs L (v + (3 : Int32)) = some a3) (x4 : xld xs L (v + (4 : Int32)) = some a4) (x5 : xld xs L (v + (5 : Int32)) = some a5) : LG (lwB_28 xs L v h) v := by
  have c1 : ck h 11 0 = some () := ck_L iv.1 (by decide) (by decide)
  obtain ⟨r, h1, h2, e1, e2, i2⟩ := lwo_trust iv a1 a2
  replace e1 : f_X11_trust h 0 a1 a2 = some (r, h1) := e1
  replace e2 : f_X12_trust h1 113 a1 a2 = some (r, h2) := e2
  have c2 : ck h1 12 113 = some () := ck_some fun n => by
    rw [no_trust n] at e2
    cases e2
  refine ⟨h2, ?_, i2⟩
  unfold lwB_28
  simp only [x1, x2, c1, c2, e1, e2, Option.bind_some, bd2_some, if_true, eq_self]
theorem lw_29 {xs : Nat → Int32} {L : Nat} {v : Int32} {h : aH} {a1 a2 a3 a4 a5 : Int32} (iv : Inv h) (x1 : xld xs L (v + (1 : Int32)) = some a1) (x2 : xld xs L (v + (2 : Int32)) = some a2) (x3 : xld xs L (v + (3 : Int32)) = some a3) (x4 : xld xs L (v + (4 : Int32)) = some a4) (x5 : xld xs L (v + (5 : Int32)) = some a5) : LG (lwB_29 xs L v h) v := by
  have c1 : ck h 11 0 = some () := ck_L iv.1 (by decide) (by decide)
  obtain ⟨r, h1, h2, e1, e2, i2⟩ := lwo_because iv a1
  replace e1 : f_X11_because h 0 a1 = some (r, h1) := e1
  replace e2 : f_X12_because h1 113 a1 = some (r, h2) := e2
  have c2 : ck h1 12 113 = some () := ck_some fun n => by
    rw [no_because n] at e2
    cases e2
  refine ⟨h2, ?_, i2⟩
  unfold lwB_29
  simp only [x1, c1, c2, e1, e2, Option.bind_some, bd2_some, if_true, eq_self]
theorem lw_30 {xs : Nat → Int32} {L : Nat} {v : Int32} {h : aH} {a1 a2 a3 a4 a5 : Int32} (iv : Inv h) (x1 : xld xs L (v + (1 : Int32)) = some a1) (x2 : xld xs L (v + (2 : Int32)) = some a2) (x3 : xld xs L (v + (3 : Int32)) = some a3) (x4 : xld xs L (v + (4 : Int32)) = some a4) (x5 : xld xs L (v + (5 : Int32)) = some a5) : LG (lwB_30 xs L v h) v := by
  have c1 : ck h 11 0 = some () := ck_L iv.1 (by decide) (by decide)
  obtain ⟨r, h1, h2, e1, e2, i2⟩ := lwo_gave iv a1
  replace e1 : f_X11_gave h 0 a1 = some (r, h1) := e1
  replace e2 : f_X12_gave h1 113 a1 = some (r, h2) := e2
  have c2 : ck h1 12 113 = some () := ck_some fun n => by
    rw [no_gave n] at e2
    cases e2
  refine ⟨h2, ?_, i2⟩
  unfold lwB_30
  simp only [x1, c1, c2, e1, e2, Option.bind_some, bd2_some, if_true, eq_self]
theorem lw_31 {xs : Nat → Int32} {L : Nat} {v : Int32} {h : aH} {a1 a2 a3 a4 a5 : Int32} (iv : Inv h) (x1 : xld xs L (v + (1 : Int32)) = some a1) (x2 : xld xs L (v + (2 : Int32)) = some a2) (x3 : xld xs L (v + (3 : Int32)) = some a3) (x4 : xld xs L (v + (4 : Int32)) = some a4) (x5 : xld xs L (v + (5 : Int32)) = some a5) : LG (lwB_31 xs L v h) v := by
  have c1 : ck h 11 0 = some () := ck_L iv.1 (by decide) (by decide)
  obtain ⟨r, h1, h2, e1, e2, i2⟩ := lwo_fees iv
  replace e1 : f_X11_fees h 0 = some (r, h1) := e1
  replace e2 : f_X12_fees h1 113 = some (r, h2) := e2
  have c2 : ck h1 12 113 = some () := ck_some fun n => by
    rw [no_fees n] at e2
    cases e2
  refine ⟨h2, ?_, i2⟩
  unfold lwB_31
  simp only [c1, c2, e1, e2, Option.bind_some, bd2_some, if_true, eq_self]
theorem lw_32 {xs : Nat → Int32} {L : Nat} {v : Int32} {h : aH} {a1 a2 a3 a4 a5 : Int32} (iv : Inv h) (x1 : xld xs L (v + (1 : Int32)) = some a1) (x2 : xld xs L (v + (2 : Int32)) = some a2) (x3 : xld xs L (v + (3 : Int32)) = some a3) (x4 : xld xs L (v + (4 : Int32)) = some a4) (x5 : xld xs L (v + (5 : Int32)) = some a5) : LG (lwB_32 xs L v h) v := by
  have c1 : ck h 11 0 = some () := ck_L iv.1 (by decide) (by decide)
  obtain ⟨r, h1, h2, e1, e2, i2⟩ := lwo_worst iv a1 a2
  replace e1 : f_X11_worst h 0 a1 a2 = some (r, h1) := e1
  replace e2 : f_X12_worst h1 113 a1 a2 = some (r, h2) := e2
  have c2 : ck h1 12 113 = some () := ck_some fun n => by
    rw [no_worst n] at e2
    cases e2
  refine ⟨h2, ?_, i2⟩
  unfold lwB_32
  simp only [x1, x2, c1, c2, e1, e2, Option.bind_some, bd2_some, if_true, eq_self]
theorem lw_33 {xs : Nat → Int32} {L : Nat} {v : Int32} {h : aH} {a1 a2 a3 a4 a5 : Int32} (iv : Inv h) (x1 : xld xs L (v + (1 : Int32)) = some a1) (x2 : xld xs L (v + (2 : Int32)) = some a2) (x3 : xld xs L (v + (3 : Int32)) = some a3) (x4 : xld xs L (v + (4 : Int32)) = some a4) (x5 : xld xs L (v + (5 : Int32)) = some a5) : LG (lwB_33 xs L v h) v := by
  have c1 : ck h 11 0 = some () := ck_L iv.1 (by decide) (by decide)
  obtain ⟨r, h1, h2, e1, e2, i2⟩ := lwo_best iv a1
  replace e1 : f_X11_best h 0 a1 = some (r, h1) := e1
  replace e2 : f_X12_best h1 113 a1 = some (r, h2) := e2
  have c2 : ck h1 12 113 = some () := ck_some fun n => by
    rw [no_best n] at e2
    cases e2
  refine ⟨h2, ?_, i2⟩
  unfold lwB_33
  simp only [x1, c1, c2, e1, e2, Option.bind_some, bd2_some, if_true, eq_self]
theorem lw_34 {xs : Nat → Int32} {L : Nat} {v : Int32} {h : aH} {a1 a2 a3 a4 a5 : Int32} (iv : Inv h) (x1 : xld xs L (v + (1 : Int32)) = some a1) (x2 : xld xs L (v + (2 : Int32)) = some a2) (x3 : xld xs L (v + (3 : Int32)) = some a3) (x4 : xld xs L (v + (4 : Int32)) = some a4) (x5 : xld xs L (v + (5 : Int32)) = some a5) : LG (lwB_34 xs L v h) v := by
  have c1 : ck h 11 0 = some () := ck_L iv.1 (by decide) (by decide)
  obtain ⟨r, h1, h2, e1, e2, i2⟩ := lwo_shortest iv a1 a2
  replace e1 : f_X11_shortest h 0 a1 a2 = some (r, h1) := e1
  replace e2 : f_X12_shortest h1 113 a1 a2 = some (r, h2) := e2
  have c2 : ck h1 12 113 = some () := ck_some fun n => by
    rw [no_shortest n] at e2
    cases e2
  refine ⟨h2, ?_, i2⟩
  unfold lwB_34
  simp only [x1, x2, c1, c2, e1, e2, Option.bind_some, bd2_some, if_true, eq_self]
theorem lw_35 {xs : Nat → Int32} {L : Nat} {v : Int32} {h : aH} {a1 a2 a3 a4 a5 : Int32} (iv : Inv h) (x1 : xld xs L (v + (1 : Int32)) = some a1) (x2 : xld xs L (v + (2 : Int32)) = some a2) (x3 : xld xs L (v + (3 : Int32)) = some a3) (x4 : xld xs L (v + (4 : Int32)) = some a4) (x5 : xld xs L (v + (5 : Int32)) = some a5) : LG (lwB_35 xs L v h) v := by
  have c1 : ck h 11 0 = some () := ck_L iv.1 (by decide) (by decide)
  obtain ⟨r, h1, h2, e1, e2, i2⟩ := lwo_shortestFirst iv a1
  replace e1 : f_X11_shortestFirst h 0 a1 = some (r, h1) := e1
  replace e2 : f_X12_shortestFirst h1 113 a1 = some (r, h2) := e2
  have c2 : ck h1 12 113 = some () := ck_some fun n => by
    rw [no_shortestFirst n] at e2
    cases e2
  refine ⟨h2, ?_, i2⟩
  unfold lwB_35
  simp only [x1, c1, c2, e1, e2, Option.bind_some, bd2_some, if_true, eq_self]
theorem lw_36 {xs : Nat → Int32} {L : Nat} {v : Int32} {h : aH} {a1 a2 a3 a4 a5 : Int32} (iv : Inv h) (x1 : xld xs L (v + (1 : Int32)) = some a1) (x2 : xld xs L (v + (2 : Int32)) = some a2) (x3 : xld xs L (v + (3 : Int32)) = some a3) (x4 : xld xs L (v + (4 : Int32)) = some a4) (x5 : xld xs L (v + (5 : Int32)) = some a5) : LG (lwB_36 xs L v h) v := by
  have c1 : ck h 11 0 = some () := ck_L iv.1 (by decide) (by decide)
  obtain ⟨r, h1, h2, e1, e2, i2⟩ := lwo_settled iv
  replace e1 : f_X11_settled h 0 = some (r, h1) := e1
  replace e2 : f_X12_settled h1 113 = some (r, h2) := e2
  have c2 : ck h1 12 113 = some () := ck_some fun n => by
    rw [no_settled n] at e2
    cases e2
  refine ⟨h2, ?_, i2⟩
  unfold lwB_36
  simp only [c1, c2, e1, e2, Option.bind_some, bd2_some, if_true, eq_self]
theorem lw_37 {xs : Nat → Int32} {L : Nat} {v : Int32} {h : aH} {a1 a2 a3 a4 a5 : Int32} (iv : Inv h) (x1 : xld xs L (v + (1 : Int32)) = some a1) (x2 : xld xs L (v + (2 : Int32)) = some a2) (x3 : xld xs L (v + (3 : Int32)) = some a3) (x4 : xld xs L (v + (4 : Int32)) = some a4) (x5 : xld xs L (v + (5 : Int32)) = some a5) : LG (lwB_37 xs L v h) v := by
  have c1 : ck h 11 0 = some () := ck_L iv.1 (by decide) (by decide)
  obtain ⟨r, h1, h2, e1, e2, i2⟩ := lwo_bench iv
  replace e1 : f_X11_bench h 0 = some (r, h1) := e1
  replace e2 : f_X12_bench h1 113 = some (r, h2) := e2
  have c2 : ck h1 12 113 = some () := ck_some fun n => by
    rw [no_bench n] at e2
    cases e2
  refine ⟨h2, ?_, i2⟩
  unfold lwB_37
  simp only [c1, c2, e1, e2, Option.bind_some, bd2_some, if_true, eq_self]
theorem lw_38 {xs : Nat → Int32} {L : Nat} {v : Int32} {h : aH} {a1 a2 a3 a4 a5 : Int32} (iv : Inv h) (x1 : xld xs L (v + (1 : Int32)) = some a1) (x2 : xld xs L (v + (2 : Int32)) = some a2) (x3 : xld xs L (v + (3 : Int32)) = some a3) (x4 : xld xs L (v + (4 : Int32)) = some a4) (x5 : xld xs L (v + (5 : Int32)) = some a5) : LG (lwB_38 xs L v h) v := by
  have c1 : ck h 11 0 = some () := ck_L iv.1 (by decide) (by decide)
  obtain ⟨r, h1, h2, e1, e2, i2⟩ := lwo_clash iv
  replace e1 : f_X11_clash h 0 = some (r, h1) := e1
  replace e2 : f_X12_clash h1 113 = some (r, h2) := e2
  have c2 : ck h1 12 113 = some () := ck_some fun n => by
    rw [no_clash n] at e2
    cases e2
  refine ⟨h2, ?_, i2⟩
  unfold lwB_38
  simp only [c1, c2, e1, e2, Option.bind_some, bd2_some, if_true, eq_self]
theorem lw_39 {xs : Nat → Int32} {L : Nat} {v : Int32} {h : aH} {a1 a2 a3 a4 a5 : Int32} (iv : Inv h) (x1 : xld xs L (v + (1 : Int32)) = some a1) (x2 : xld xs L (v + (2 : Int32)) = some a2) (x3 : xld xs L (v + (3 : Int32)) = some a3) (x4 : xld xs L (v + (4 : Int32)) = some a4) (x5 : xld xs L (v + (5 : Int32)) = some a5) : LG (lwB_39 xs L v h) v := by
  have c1 : ck h 11 0 = some () := ck_L iv.1 (by decide) (by decide)
  obtain ⟨r, h1, h2, e1, e2, i2⟩ := lwo_liars iv
  replace e1 : f_X11_liars h 0 = some (r, h1) := e1
  replace e2 : f_X12_liars h1 113 = some (r, h2) := e2
  have c2 : ck h1 12 113 = some () := ck_some fun n => by
    rw [no_liars n] at e2
    cases e2
  refine ⟨h2, ?_, i2⟩
  unfold lwB_39
  simp only [c1, c2, e1, e2, Option.bind_some, bd2_some, if_true, eq_self]
theorem lw_40 {xs : Nat → Int32} {L : Nat} {v : Int32} {h : aH} {a1 a2 a3 a4 a5 : Int32} (iv : Inv h) (x1 : xld xs L (v + (1 : Int32)) = some a1) (x2 : xld xs L (v + (2 : Int32)) = some a2) (x3 : xld xs L (v + (3 : Int32)) = some a3) (x4 : xld xs L (v + (4 : Int32)) = some a4) (x5 : xld xs L (v + (5 : Int32)) = some a5) : LG (lwB_40 xs L v h) v := by
  have c1 : ck h 11 0 = some () := ck_L iv.1 (by decide) (by decide)
  obtain ⟨r, h1, h2, e1, e2, i2⟩ := lwo_sit iv a1
  replace e1 : f_X11_sit h 0 a1 = some (r, h1) := e1
  replace e2 : f_X12_sit h1 113 a1 = some (r, h2) := e2
  have c2 : ck h1 12 113 = some () := ck_some fun n => by
    rw [no_sit n] at e2
    cases e2
  refine ⟨h2, ?_, i2⟩
  unfold lwB_40
  simp only [x1, c1, c2, e1, e2, Option.bind_some, bd2_some, if_true, eq_self]
theorem lw_41 {xs : Nat → Int32} {L : Nat} {v : Int32} {h : aH} {a1 a2 a3 a4 a5 : Int32} (iv : Inv h) (x1 : xld xs L (v + (1 : Int32)) = some a1) (x2 : xld xs L (v + (2 : Int32)) = some a2) (x3 : xld xs L (v + (3 : Int32)) = some a3) (x4 : xld xs L (v + (4 : Int32)) = some a4) (x5 : xld xs L (v + (5 : Int32)) = some a5) : LG (lwB_41 xs L v h) v := by
  have c1 : ck h 11 0 = some () := ck_L iv.1 (by decide) (by decide)
  obtain ⟨r, h1, h2, e1, e2, i2⟩ := lwo_sat iv a1
  replace e1 : f_X11_sat h 0 a1 = some (r, h1) := e1
  replace e2 : f_X12_sat h1 113 a1 = some (r, h2) := e2
  have c2 : ck h1 12 113 = some () := ck_some fun n => by
    rw [no_sat n] at e2
    cases e2
  refine ⟨h2, ?_, i2⟩
  unfold lwB_41
  simp only [x1, c1, c2, e1, e2, Option.bind_some, bd2_some, if_true, eq_self]
theorem lw_42 {xs : Nat → Int32} {L : Nat} {v : Int32} {h : aH} {a1 a2 a3 a4 a5 : Int32} (iv : Inv h) (x1 : xld xs L (v + (1 : Int32)) = some a1) (x2 : xld xs L (v + (2 : Int32)) = some a2) (x3 : xld xs L (v + (3 : Int32)) = some a3) (x4 : xld xs L (v + (4 : Int32)) = some a4) (x5 : xld xs L (v + (5 : Int32)) = some a5) : LG (lwB_42 xs L v h) v := by
  have c1 : ck h 11 0 = some () := ck_L iv.1 (by decide) (by decide)
  obtain ⟨r, h1, h2, e1, e2, i2⟩ := lwo_tally iv a1 a2 a3
  replace e1 : f_X11_tally h 0 a1 a2 a3 = some (r, h1) := e1
  replace e2 : f_X12_tally h1 113 a1 a2 a3 = some (r, h2) := e2
  have c2 : ck h1 12 113 = some () := ck_some fun n => by
    rw [no_tally n] at e2
    cases e2
  refine ⟨h2, ?_, i2⟩
  unfold lwB_42
  simp only [x1, x2, x3, c1, c2, e1, e2, Option.bind_some, bd2_some, if_true, eq_self]
theorem lw_43 {xs : Nat → Int32} {L : Nat} {v : Int32} {h : aH} {a1 a2 a3 a4 a5 : Int32} (iv : Inv h) (x1 : xld xs L (v + (1 : Int32)) = some a1) (x2 : xld xs L (v + (2 : Int32)) = some a2) (x3 : xld xs L (v + (3 : Int32)) = some a3) (x4 : xld xs L (v + (4 : Int32)) = some a4) (x5 : xld xs L (v + (5 : Int32)) = some a5) : LG (lwB_43 xs L v h) v := by
  have c1 : ck h 11 0 = some () := ck_L iv.1 (by decide) (by decide)
  obtain ⟨r, h1, h2, e1, e2, i2⟩ := lwo_mark iv
  replace e1 : f_X11_mark h 0 = some (r, h1) := e1
  replace e2 : f_X12_mark h1 113 = some (r, h2) := e2
  have c2 : ck h1 12 113 = some () := ck_some fun n => by
    rw [no_mark n] at e2
    cases e2
  refine ⟨h2, ?_, i2⟩
  unfold lwB_43
  simp only [c1, c2, e1, e2, Option.bind_some, bd2_some, if_true, eq_self]
theorem lw_44 {xs : Nat → Int32} {L : Nat} {v : Int32} {h : aH} {a1 a2 a3 a4 a5 : Int32} (iv : Inv h) (x1 : xld xs L (v + (1 : Int32)) = some a1) (x2 : xld xs L (v + (2 : Int32)) = some a2) (x3 : xld xs L (v + (3 : Int32)) = some a3) (x4 : xld xs L (v + (4 : Int32)) = some a4) (x5 : xld xs L (v + (5 : Int32)) = some a5) : LG (lwB_44 xs L v h) v := by
  have c1 : ck h 11 0 = some () := ck_L iv.1 (by decide) (by decide)
  obtain ⟨r, h1, h2, e1, e2, i2⟩ := lwo_back iv
  replace e1 : f_X11_back h 0 = some (r, h1) := e1
  replace e2 : f_X12_back h1 113 = some (r, h2) := e2
  have c2 : ck h1 12 113 = some () := ck_some fun n => by
    rw [no_back n] at e2
    cases e2
  refine ⟨h2, ?_, i2⟩
  unfold lwB_44
  simp only [c1, c2, e1, e2, Option.bind_some, bd2_some, if_true, eq_self]
theorem lwC_ok45 {xs : Nat → Int32} {L : Nat} {v : Int32} {h : aH} {a1 a2 a3 a4 a5 : Int32} (iv : Inv h) (x1 : xld xs L (v + (1 : Int32)) = some a1) (x2 : xld xs L (v + (2 : Int32)) = some a2) (x3 : xld xs L (v + (3 : Int32)) = some a3) (x4 : xld xs L (v + (4 : Int32)) = some a4) (x5 : xld xs L (v + (5 : Int32)) = some a5) (t7 : Int32) : LG (lwC_45 xs L v h t7) v := ⟨h, rfl, iv⟩
theorem lwC_ok44 {xs : Nat → Int32} {L : Nat} {v : Int32} {h : aH} {a1 a2 a3 a4 a5 : Int32} (iv : Inv h) (x1 : xld xs L (v + (1 : Int32)) = some a1) (x2 : xld xs L (v + (2 : Int32)) = some a2) (x3 : xld xs L (v + (3 : Int32)) = some a3) (x4 : xld xs L (v + (4 : Int32)) = some a4) (x5 : xld xs L (v + (5 : Int32)) = some a5) (t7 : Int32) : LG (lwC_44 xs L v h t7) v := by
  unfold lwC_44
  by_cases e : (t7 &&& (63 : Int32)) = (44 : Int32)
  · rw [if_pos e]
    exact lw_44 iv x1 x2 x3 x4 x5
  · rw [if_neg e]
    exact lwC_ok45 iv x1 x2 x3 x4 x5 t7
theorem lwC_ok43 {xs : Nat → Int32} {L : Nat} {v : Int32} {h : aH} {a1 a2 a3 a4 a5 : Int32} (iv : Inv h) (x1 : xld xs L (v + (1 : Int32)) = some a1) (x2 : xld xs L (v + (2 : Int32)) = some a2) (x3 : xld xs L (v + (3 : Int32)) = some a3) (x4 : xld xs L (v + (4 : Int32)) = some a4) (x5 : xld xs L (v + (5 : Int32)) = some a5) (t7 : Int32) : LG (lwC_43 xs L v h t7) v := by
  unfold lwC_43
  by_cases e : (t7 &&& (63 : Int32)) = (43 : Int32)
  · rw [if_pos e]
    exact lw_43 iv x1 x2 x3 x4 x5
  · rw [if_neg e]
    exact lwC_ok44 iv x1 x2 x3 x4 x5 t7
theorem lwC_ok42 {xs : Nat → Int32} {L : Nat} {v : Int32} {h : aH} {a1 a2 a3 a4 a5 : Int32} (iv : Inv h) (x1 : xld xs L (v + (1 : Int32)) = some a1) (x2 : xld xs L (v + (2 : Int32)) = some a2) (x3 : xld xs L (v + (3 : Int32)) = some a3) (x4 : xld xs L (v + (4 : Int32)) = some a4) (x5 : xld xs L (v + (5 : Int32)) = some a5) (t7 : Int32) : LG (lwC_42 xs L v h t7) v := by
  unfold lwC_42
  by_cases e : (t7 &&& (63 : Int32)) = (42 : Int32)
  · rw [if_pos e]
    exact lw_42 iv x1 x2 x3 x4 x5
  · rw [if_neg e]
    exact lwC_ok43 iv x1 x2 x3 x4 x5 t7
theorem lwC_ok41 {xs : Nat → Int32} {L : Nat} {v : Int32} {h : aH} {a1 a2 a3 a4 a5 : Int32} (iv : Inv h) (x1 : xld xs L (v + (1 : Int32)) = some a1) (x2 : xld xs L (v + (2 : Int32)) = some a2) (x3 : xld xs L (v + (3 : Int32)) = some a3) (x4 : xld xs L (v + (4 : Int32)) = some a4) (x5 : xld xs L (v + (5 : Int32)) = some a5) (t7 : Int32) : LG (lwC_41 xs L v h t7) v := by
  unfold lwC_41
  by_cases e : (t7 &&& (63 : Int32)) = (41 : Int32)
  · rw [if_pos e]
    exact lw_41 iv x1 x2 x3 x4 x5
  · rw [if_neg e]
    exact lwC_ok42 iv x1 x2 x3 x4 x5 t7
theorem lwC_ok40 {xs : Nat → Int32} {L : Nat} {v : Int32} {h : aH} {a1 a2 a3 a4 a5 : Int32} (iv : Inv h) (x1 : xld xs L (v + (1 : Int32)) = some a1) (x2 : xld xs L (v + (2 : Int32)) = some a2) (x3 : xld xs L (v + (3 : Int32)) = some a3) (x4 : xld xs L (v + (4 : Int32)) = some a4) (x5 : xld xs L (v + (5 : Int32)) = some a5) (t7 : Int32) : LG (lwC_40 xs L v h t7) v := by
  unfold lwC_40
  by_cases e : (t7 &&& (63 : Int32)) = (40 : Int32)
  · rw [if_pos e]
    exact lw_40 iv x1 x2 x3 x4 x5
  · rw [if_neg e]
    exact lwC_ok41 iv x1 x2 x3 x4 x5 t7
theorem lwC_ok39 {xs : Nat → Int32} {L : Nat} {v : Int32} {h : aH} {a1 a2 a3 a4 a5 : Int32} (iv : Inv h) (x1 : xld xs L (v + (1 : Int32)) = some a1) (x2 : xld xs L (v + (2 : Int32)) = some a2) (x3 : xld xs L (v + (3 : Int32)) = some a3) (x4 : xld xs L (v + (4 : Int32)) = some a4) (x5 : xld xs L (v + (5 : Int32)) = some a5) (t7 : Int32) : LG (lwC_39 xs L v h t7) v := by
  unfold lwC_39
  by_cases e : (t7 &&& (63 : Int32)) = (39 : Int32)
  · rw [if_pos e]
    exact lw_39 iv x1 x2 x3 x4 x5
  · rw [if_neg e]
    exact lwC_ok40 iv x1 x2 x3 x4 x5 t7
theorem lwC_ok38 {xs : Nat → Int32} {L : Nat} {v : Int32} {h : aH} {a1 a2 a3 a4 a5 : Int32} (iv : Inv h) (x1 : xld xs L (v + (1 : Int32)) = some a1) (x2 : xld xs L (v + (2 : Int32)) = some a2) (x3 : xld xs L (v + (3 : Int32)) = some a3) (x4 : xld xs L (v + (4 : Int32)) = some a4) (x5 : xld xs L (v + (5 : Int32)) = some a5) (t7 : Int32) : LG (lwC_38 xs L v h t7) v := by
  unfold lwC_38
  by_cases e : (t7 &&& (63 : Int32)) = (38 : Int32)
  · rw [if_pos e]
    exact lw_38 iv x1 x2 x3 x4 x5
  · rw [if_neg e]
    exact lwC_ok39 iv x1 x2 x3 x4 x5 t7
theorem lwC_ok37 {xs : Nat → Int32} {L : Nat} {v : Int32} {h : aH} {a1 a2 a3 a4 a5 : Int32} (iv : Inv h) (x1 : xld xs L (v + (1 : Int32)) = some a1) (x2 : xld xs L (v + (2 : Int32)) = some a2) (x3 : xld xs L (v + (3 : Int32)) = some a3) (x4 : xld xs L (v + (4 : Int32)) = some a4) (x5 : xld xs L (v + (5 : Int32)) = some a5) (t7 : Int32) : LG (lwC_37 xs L v h t7) v := by
  unfold lwC_37
  by_cases e : (t7 &&& (63 : Int32)) = (37 : Int32)
  · rw [if_pos e]
    exact lw_37 iv x1 x2 x3 x4 x5
  · rw [if_neg e]
    exact lwC_ok38 iv x1 x2 x3 x4 x5 t7
theorem lwC_ok36 {xs : Nat → Int32} {L : Nat} {v : Int32} {h : aH} {a1 a2 a3 a4 a5 : Int32} (iv : Inv h) (x1 : xld xs L (v + (1 : Int32)) = some a1) (x2 : xld xs L (v + (2 : Int32)) = some a2) (x3 : xld xs L (v + (3 : Int32)) = some a3) (x4 : xld xs L (v + (4 : Int32)) = some a4) (x5 : xld xs L (v + (5 : Int32)) = some a5) (t7 : Int32) : LG (lwC_36 xs L v h t7) v := by
  unfold lwC_36
  by_cases e : (t7 &&& (63 : Int32)) = (36 : Int32)
  · rw [if_pos e]
    exact lw_36 iv x1 x2 x3 x4 x5
  · rw [if_neg e]
    exact lwC_ok37 iv x1 x2 x3 x4 x5 t7
theorem lwC_ok35 {xs : Nat → Int32} {L : Nat} {v : Int32} {h : aH} {a1 a2 a3 a4 a5 : Int32} (iv : Inv h) (x1 : xld xs L (v + (1 : Int32)) = some a1) (x2 : xld xs L (v + (2 : Int32)) = some a2) (x3 : xld xs L (v + (3 : Int32)) = some a3) (x4 : xld xs L (v + (4 : Int32)) = some a4) (x5 : xld xs L (v + (5 : Int32)) = some a5) (t7 : Int32) : LG (lwC_35 xs L v h t7) v := by
  unfold lwC_35
  by_cases e : (t7 &&& (63 : Int32)) = (35 : Int32)
  · rw [if_pos e]
    exact lw_35 iv x1 x2 x3 x4 x5
  · rw [if_neg e]
    exact lwC_ok36 iv x1 x2 x3 x4 x5 t7
theorem lwC_ok34 {xs : Nat → Int32} {L : Nat} {v : Int32} {h : aH} {a1 a2 a3 a4 a5 : Int32} (iv : Inv h) (x1 : xld xs L (v + (1 : Int32)) = some a1) (x2 : xld xs L (v + (2 : Int32)) = some a2) (x3 : xld xs L (v + (3 : Int32)) = some a3) (x4 : xld xs L (v + (4 : Int32)) = some a4) (x5 : xld xs L (v + (5 : Int32)) = some a5) (t7 : Int32) : LG (lwC_34 xs L v h t7) v := by
  unfold lwC_34
  by_cases e : (t7 &&& (63 : Int32)) = (34 : Int32)
  · rw [if_pos e]
    exact lw_34 iv x1 x2 x3 x4 x5
  · rw [if_neg e]
    exact lwC_ok35 iv x1 x2 x3 x4 x5 t7
theorem lwC_ok33 {xs : Nat → Int32} {L : Nat} {v : Int32} {h : aH} {a1 a2 a3 a4 a5 : Int32} (iv : Inv h) (x1 : xld xs L (v + (1 : Int32)) = some a1) (x2 : xld xs L (v + (2 : Int32)) = some a2) (x3 : xld xs L (v + (3 : Int32)) = some a3) (x4 : xld xs L (v + (4 : Int32)) = some a4) (x5 : xld xs L (v + (5 : Int32)) = some a5) (t7 : Int32) : LG (lwC_33 xs L v h t7) v := by
  unfold lwC_33
  by_cases e : (t7 &&& (63 : Int32)) = (33 : Int32)
  · rw [if_pos e]
    exact lw_33 iv x1 x2 x3 x4 x5
  · rw [if_neg e]
    exact lwC_ok34 iv x1 x2 x3 x4 x5 t7
theorem lwC_ok32 {xs : Nat → Int32} {L : Nat} {v : Int32} {h : aH} {a1 a2 a3 a4 a5 : Int32} (iv : Inv h) (x1 : xld xs L (v + (1 : Int32)) = some a1) (x2 : xld xs L (v + (2 : Int32)) = some a2) (x3 : xld xs L (v + (3 : Int32)) = some a3) (x4 : xld xs L (v + (4 : Int32)) = some a4) (x5 : xld xs L (v + (5 : Int32)) = some a5) (t7 : Int32) : LG (lwC_32 xs L v h t7) v := by
  unfold lwC_32
  by_cases e : (t7 &&& (63 : Int32)) = (32 : Int32)
  · rw [if_pos e]
    exact lw_32 iv x1 x2 x3 x4 x5
  · rw [if_neg e]
    exact lwC_ok33 iv x1 x2 x3 x4 x5 t7
theorem lwC_ok31 {xs : Nat → Int32} {L : Nat} {v : Int32} {h : aH} {a1 a2 a3 a4 a5 : Int32} (iv : Inv h) (x1 : xld xs L (v + (1 : Int32)) = some a1) (x2 : xld xs L (v + (2 : Int32)) = some a2) (x3 : xld xs L (v + (3 : Int32)) = some a3) (x4 : xld xs L (v + (4 : Int32)) = some a4) (x5 : xld xs L (v + (5 : Int32)) = some a5) (t7 : Int32) : LG (lwC_31 xs L v h t7) v := by
  unfold lwC_31
  by_cases e : (t7 &&& (63 : Int32)) = (31 : Int32)
  · rw [if_pos e]
    exact lw_31 iv x1 x2 x3 x4 x5
  · rw [if_neg e]
    exact lwC_ok32 iv x1 x2 x3 x4 x5 t7
theorem lwC_ok30 {xs : Nat → Int32} {L : Nat} {v : Int32} {h : aH} {a1 a2 a3 a4 a5 : Int32} (iv : Inv h) (x1 : xld xs L (v + (1 : Int32)) = some a1) (x2 : xld xs L (v + (2 : Int32)) = some a2) (x3 : xld xs L (v + (3 : Int32)) = some a3) (x4 : xld xs L (v + (4 : Int32)) = some a4) (x5 : xld xs L (v + (5 : Int32)) = some a5) (t7 : Int32) : LG (lwC_30 xs L v h t7) v := by
  unfold lwC_30
  by_cases e : (t7 &&& (63 : Int32)) = (30 : Int32)
  · rw [if_pos e]
    exact lw_30 iv x1 x2 x3 x4 x5
  · rw [if_neg e]
    exact lwC_ok31 iv x1 x2 x3 x4 x5 t7
theorem lwC_ok29 {xs : Nat → Int32} {L : Nat} {v : Int32} {h : aH} {a1 a2 a3 a4 a5 : Int32} (iv : Inv h) (x1 : xld xs L (v + (1 : Int32)) = some a1) (x2 : xld xs L (v + (2 : Int32)) = some a2) (x3 : xld xs L (v + (3 : Int32)) = some a3) (x4 : xld xs L (v + (4 : Int32)) = some a4) (x5 : xld xs L (v + (5 : Int32)) = some a5) (t7 : Int32) : LG (lwC_29 xs L v h t7) v := by
  unfold lwC_29
  by_cases e : (t7 &&& (63 : Int32)) = (29 : Int32)
  · rw [if_pos e]
    exact lw_29 iv x1 x2 x3 x4 x5
  · rw [if_neg e]
    exact lwC_ok30 iv x1 x2 x3 x4 x5 t7
theorem lwC_ok28 {xs : Nat → Int32} {L : Nat} {v : Int32} {h : aH} {a1 a2 a3 a4 a5 : Int32} (iv : Inv h) (x1 : xld xs L (v + (1 : Int32)) = some a1) (x2 : xld xs L (v + (2 : Int32)) = some a2) (x3 : xld xs L (v + (3 : Int32)) = some a3) (x4 : xld xs L (v + (4 : Int32)) = some a4) (x5 : xld xs L (v + (5 : Int32)) = some a5) (t7 : Int32) : LG (lwC_28 xs L v h t7) v := by
  unfold lwC_28
  by_cases e : (t7 &&& (63 : Int32)) = (28 : Int32)
  · rw [if_pos e]
    exact lw_28 iv x1 x2 x3 x4 x5
  · rw [if_neg e]
    exact lwC_ok29 iv x1 x2 x3 x4 x5 t7
theorem lwC_ok27 {xs : Nat → Int32} {L : Nat} {v : Int32} {h : aH} {a1 a2 a3 a4 a5 : Int32} (iv : Inv h) (x1 : xld xs L (v + (1 : Int32)) = some a1) (x2 : xld xs L (v + (2 : Int32)) = some a2) (x3 : xld xs L (v + (3 : Int32)) = some a3) (x4 : xld xs L (v + (4 : Int32)) = some a4) (x5 : xld xs L (v + (5 : Int32)) = some a5) (t7 : Int32) : LG (lwC_27 xs L v h t7) v := by
  unfold lwC_27
  by_cases e : (t7 &&& (63 : Int32)) = (27 : Int32)
  · rw [if_pos e]
    exact lw_27 iv x1 x2 x3 x4 x5
  · rw [if_neg e]
    exact lwC_ok28 iv x1 x2 x3 x4 x5 t7
theorem lwC_ok26 {xs : Nat → Int32} {L : Nat} {v : Int32} {h : aH} {a1 a2 a3 a4 a5 : Int32} (iv : Inv h) (x1 : xld xs L (v + (1 : Int32)) = some a1) (x2 : xld xs L (v + (2 : Int32)) = some a2) (x3 : xld xs L (v + (3 : Int32)) = some a3) (x4 : xld xs L (v + (4 : Int32)) = some a4) (x5 : xld xs L (v + (5 : Int32)) = some a5) (t7 : Int32) : LG (lwC_26 xs L v h t7) v := by
  unfold lwC_26
  by_cases e : (t7 &&& (63 : Int32)) = (26 : Int32)
  · rw [if_pos e]
    exact lw_26 iv x1 x2 x3 x4 x5
  · rw [if_neg e]
    exact lwC_ok27 iv x1 x2 x3 x4 x5 t7
theorem lwC_ok25 {xs : Nat → Int32} {L : Nat} {v : Int32} {h : aH} {a1 a2 a3 a4 a5 : Int32} (iv : Inv h) (x1 : xld xs L (v + (1 : Int32)) = some a1) (x2 : xld xs L (v + (2 : Int32)) = some a2) (x3 : xld xs L (v + (3 : Int32)) = some a3) (x4 : xld xs L (v + (4 : Int32)) = some a4) (x5 : xld xs L (v + (5 : Int32)) = some a5) (t7 : Int32) : LG (lwC_25 xs L v h t7) v := by
  unfold lwC_25
  by_cases e : (t7 &&& (63 : Int32)) = (25 : Int32)
  · rw [if_pos e]
    exact lw_25 iv x1 x2 x3 x4 x5
  · rw [if_neg e]
    exact lwC_ok26 iv x1 x2 x3 x4 x5 t7
theorem lwC_ok24 {xs : Nat → Int32} {L : Nat} {v : Int32} {h : aH} {a1 a2 a3 a4 a5 : Int32} (iv : Inv h) (x1 : xld xs L (v + (1 : Int32)) = some a1) (x2 : xld xs L (v + (2 : Int32)) = some a2) (x3 : xld xs L (v + (3 : Int32)) = some a3) (x4 : xld xs L (v + (4 : Int32)) = some a4) (x5 : xld xs L (v + (5 : Int32)) = some a5) (t7 : Int32) : LG (lwC_24 xs L v h t7) v := by
  unfold lwC_24
  by_cases e : (t7 &&& (63 : Int32)) = (24 : Int32)
  · rw [if_pos e]
    exact lw_24 iv x1 x2 x3 x4 x5
  · rw [if_neg e]
    exact lwC_ok25 iv x1 x2 x3 x4 x5 t7
theorem lwC_ok23 {xs : Nat → Int32} {L : Nat} {v : Int32} {h : aH} {a1 a2 a3 a4 a5 : Int32} (iv : Inv h) (x1 : xld xs L (v + (1 : Int32)) = some a1) (x2 : xld xs L (v + (2 : Int32)) = some a2) (x3 : xld xs L (v + (3 : Int32)) = some a3) (x4 : xld xs L (v + (4 : Int32)) = some a4) (x5 : xld xs L (v + (5 : Int32)) = some a5) (t7 : Int32) : LG (lwC_23 xs L v h t7) v := by
  unfold lwC_23
  by_cases e : (t7 &&& (63 : Int32)) = (23 : Int32)
  · rw [if_pos e]
    exact lw_23 iv x1 x2 x3 x4 x5
  · rw [if_neg e]
    exact lwC_ok24 iv x1 x2 x3 x4 x5 t7
theorem lwC_ok22 {xs : Nat → Int32} {L : Nat} {v : Int32} {h : aH} {a1 a2 a3 a4 a5 : Int32} (iv : Inv h) (x1 : xld xs L (v + (1 : Int32)) = some a1) (x2 : xld xs L (v + (2 : Int32)) = some a2) (x3 : xld xs L (v + (3 : Int32)) = some a3) (x4 : xld xs L (v + (4 : Int32)) = some a4) (x5 : xld xs L (v + (5 : Int32)) = some a5) (t7 : Int32) : LG (lwC_22 xs L v h t7) v := by
  unfold lwC_22
  by_cases e : (t7 &&& (63 : Int32)) = (22 : Int32)
  · rw [if_pos e]
    exact lw_22 iv x1 x2 x3 x4 x5
  · rw [if_neg e]
    exact lwC_ok23 iv x1 x2 x3 x4 x5 t7
theorem lwC_ok21 {xs : Nat → Int32} {L : Nat} {v : Int32} {h : aH} {a1 a2 a3 a4 a5 : Int32} (iv : Inv h) (x1 : xld xs L (v + (1 : Int32)) = some a1) (x2 : xld xs L (v + (2 : Int32)) = some a2) (x3 : xld xs L (v + (3 : Int32)) = some a3) (x4 : xld xs L (v + (4 : Int32)) = some a4) (x5 : xld xs L (v + (5 : Int32)) = some a5) (t7 : Int32) : LG (lwC_21 xs L v h t7) v := by
  unfold lwC_21
  by_cases e : (t7 &&& (63 : Int32)) = (21 : Int32)
  · rw [if_pos e]
    exact lw_21 iv x1 x2 x3 x4 x5
  · rw [if_neg e]
    exact lwC_ok22 iv x1 x2 x3 x4 x5 t7
theorem lwC_ok20 {xs : Nat → Int32} {L : Nat} {v : Int32} {h : aH} {a1 a2 a3 a4 a5 : Int32} (iv : Inv h) (x1 : xld xs L (v + (1 : Int32)) = some a1) (x2 : xld xs L (v + (2 : Int32)) = some a2) (x3 : xld xs L (v + (3 : Int32)) = some a3) (x4 : xld xs L (v + (4 : Int32)) = some a4) (x5 : xld xs L (v + (5 : Int32)) = some a5) (t7 : Int32) : LG (lwC_20 xs L v h t7) v := by
  unfold lwC_20
  by_cases e : (t7 &&& (63 : Int32)) = (20 : Int32)
  · rw [if_pos e]
    exact lw_20 iv x1 x2 x3 x4 x5
  · rw [if_neg e]
    exact lwC_ok21 iv x1 x2 x3 x4 x5 t7
theorem lwC_ok19 {xs : Nat → Int32} {L : Nat} {v : Int32} {h : aH} {a1 a2 a3 a4 a5 : Int32} (iv : Inv h) (x1 : xld xs L (v + (1 : Int32)) = some a1) (x2 : xld xs L (v + (2 : Int32)) = some a2) (x3 : xld xs L (v + (3 : Int32)) = some a3) (x4 : xld xs L (v + (4 : Int32)) = some a4) (x5 : xld xs L (v + (5 : Int32)) = some a5) (t7 : Int32) : LG (lwC_19 xs L v h t7) v := by
  unfold lwC_19
  by_cases e : (t7 &&& (63 : Int32)) = (19 : Int32)
  · rw [if_pos e]
    exact lw_19 iv x1 x2 x3 x4 x5
  · rw [if_neg e]
    exact lwC_ok20 iv x1 x2 x3 x4 x5 t7
theorem lwC_ok18 {xs : Nat → Int32} {L : Nat} {v : Int32} {h : aH} {a1 a2 a3 a4 a5 : Int32} (iv : Inv h) (x1 : xld xs L (v + (1 : Int32)) = some a1) (x2 : xld xs L (v + (2 : Int32)) = some a2) (x3 : xld xs L (v + (3 : Int32)) = some a3) (x4 : xld xs L (v + (4 : Int32)) = some a4) (x5 : xld xs L (v + (5 : Int32)) = some a5) (t7 : Int32) : LG (lwC_18 xs L v h t7) v := by
  unfold lwC_18
  by_cases e : (t7 &&& (63 : Int32)) = (18 : Int32)
  · rw [if_pos e]
    exact lw_18 iv x1 x2 x3 x4 x5
  · rw [if_neg e]
    exact lwC_ok19 iv x1 x2 x3 x4 x5 t7
theorem lwC_ok17 {xs : Nat → Int32} {L : Nat} {v : Int32} {h : aH} {a1 a2 a3 a4 a5 : Int32} (iv : Inv h) (x1 : xld xs L (v + (1 : Int32)) = some a1) (x2 : xld xs L (v + (2 : Int32)) = some a2) (x3 : xld xs L (v + (3 : Int32)) = some a3) (x4 : xld xs L (v + (4 : Int32)) = some a4) (x5 : xld xs L (v + (5 : Int32)) = some a5) (t7 : Int32) : LG (lwC_17 xs L v h t7) v := by
  unfold lwC_17
  by_cases e : (t7 &&& (63 : Int32)) = (17 : Int32)
  · rw [if_pos e]
    exact lw_17 iv x1 x2 x3 x4 x5
  · rw [if_neg e]
    exact lwC_ok18 iv x1 x2 x3 x4 x5 t7
theorem lwC_ok16 {xs : Nat → Int32} {L : Nat} {v : Int32} {h : aH} {a1 a2 a3 a4 a5 : Int32} (iv : Inv h) (x1 : xld xs L (v + (1 : Int32)) = some a1) (x2 : xld xs L (v + (2 : Int32)) = some a2) (x3 : xld xs L (v + (3 : Int32)) = some a3) (x4 : xld xs L (v + (4 : Int32)) = some a4) (x5 : xld xs L (v + (5 : Int32)) = some a5) (t7 : Int32) : LG (lwC_16 xs L v h t7) v := by
  unfold lwC_16
  by_cases e : (t7 &&& (63 : Int32)) = (16 : Int32)
  · rw [if_pos e]
    exact lw_16 iv x1 x2 x3 x4 x5
  · rw [if_neg e]
    exact lwC_ok17 iv x1 x2 x3 x4 x5 t7
theorem lwC_ok15 {xs : Nat → Int32} {L : Nat} {v : Int32} {h : aH} {a1 a2 a3 a4 a5 : Int32} (iv : Inv h) (x1 : xld xs L (v + (1 : Int32)) = some a1) (x2 : xld xs L (v + (2 : Int32)) = some a2) (x3 : xld xs L (v + (3 : Int32)) = some a3) (x4 : xld xs L (v + (4 : Int32)) = some a4) (x5 : xld xs L (v + (5 : Int32)) = some a5) (t7 : Int32) : LG (lwC_15 xs L v h t7) v := by
  unfold lwC_15
  by_cases e : (t7 &&& (63 : Int32)) = (15 : Int32)
  · rw [if_pos e]
    exact lw_15 iv x1 x2 x3 x4 x5
  · rw [if_neg e]
    exact lwC_ok16 iv x1 x2 x3 x4 x5 t7
theorem lwC_ok14 {xs : Nat → Int32} {L : Nat} {v : Int32} {h : aH} {a1 a2 a3 a4 a5 : Int32} (iv : Inv h) (x1 : xld xs L (v + (1 : Int32)) = some a1) (x2 : xld xs L (v + (2 : Int32)) = some a2) (x3 : xld xs L (v + (3 : Int32)) = some a3) (x4 : xld xs L (v + (4 : Int32)) = some a4) (x5 : xld xs L (v + (5 : Int32)) = some a5) (t7 : Int32) : LG (lwC_14 xs L v h t7) v := by
  unfold lwC_14
  by_cases e : (t7 &&& (63 : Int32)) = (14 : Int32)
  · rw [if_pos e]
    exact lw_14 iv x1 x2 x3 x4 x5
  · rw [if_neg e]
    exact lwC_ok15 iv x1 x2 x3 x4 x5 t7
theorem lwC_ok13 {xs : Nat → Int32} {L : Nat} {v : Int32} {h : aH} {a1 a2 a3 a4 a5 : Int32} (iv : Inv h) (x1 : xld xs L (v + (1 : Int32)) = some a1) (x2 : xld xs L (v + (2 : Int32)) = some a2) (x3 : xld xs L (v + (3 : Int32)) = some a3) (x4 : xld xs L (v + (4 : Int32)) = some a4) (x5 : xld xs L (v + (5 : Int32)) = some a5) (t7 : Int32) : LG (lwC_13 xs L v h t7) v := by
  unfold lwC_13
  by_cases e : (t7 &&& (63 : Int32)) = (13 : Int32)
  · rw [if_pos e]
    exact lw_13 iv x1 x2 x3 x4 x5
  · rw [if_neg e]
    exact lwC_ok14 iv x1 x2 x3 x4 x5 t7
theorem lwC_ok12 {xs : Nat → Int32} {L : Nat} {v : Int32} {h : aH} {a1 a2 a3 a4 a5 : Int32} (iv : Inv h) (x1 : xld xs L (v + (1 : Int32)) = some a1) (x2 : xld xs L (v + (2 : Int32)) = some a2) (x3 : xld xs L (v + (3 : Int32)) = some a3) (x4 : xld xs L (v + (4 : Int32)) = some a4) (x5 : xld xs L (v + (5 : Int32)) = some a5) (t7 : Int32) : LG (lwC_12 xs L v h t7) v := by
  unfold lwC_12
  by_cases e : (t7 &&& (63 : Int32)) = (12 : Int32)
  · rw [if_pos e]
    exact lw_12 iv x1 x2 x3 x4 x5
  · rw [if_neg e]
    exact lwC_ok13 iv x1 x2 x3 x4 x5 t7
theorem lwC_ok11 {xs : Nat → Int32} {L : Nat} {v : Int32} {h : aH} {a1 a2 a3 a4 a5 : Int32} (iv : Inv h) (x1 : xld xs L (v + (1 : Int32)) = some a1) (x2 : xld xs L (v + (2 : Int32)) = some a2) (x3 : xld xs L (v + (3 : Int32)) = some a3) (x4 : xld xs L (v + (4 : Int32)) = some a4) (x5 : xld xs L (v + (5 : Int32)) = some a5) (t7 : Int32) : LG (lwC_11 xs L v h t7) v := by
  unfold lwC_11
  by_cases e : (t7 &&& (63 : Int32)) = (11 : Int32)
  · rw [if_pos e]
    exact lw_11 iv x1 x2 x3 x4 x5
  · rw [if_neg e]
    exact lwC_ok12 iv x1 x2 x3 x4 x5 t7
theorem lwC_ok10 {xs : Nat → Int32} {L : Nat} {v : Int32} {h : aH} {a1 a2 a3 a4 a5 : Int32} (iv : Inv h) (x1 : xld xs L (v + (1 : Int32)) = some a1) (x2 : xld xs L (v + (2 : Int32)) = some a2) (x3 : xld xs L (v + (3 : Int32)) = some a3) (x4 : xld xs L (v + (4 : Int32)) = some a4) (x5 : xld xs L (v + (5 : Int32)) = some a5) (t7 : Int32) : LG (lwC_10 xs L v h t7) v := by
  unfold lwC_10
  by_cases e : (t7 &&& (63 : Int32)) = (10 : Int32)
  · rw [if_pos e]
    exact lw_10 iv x1 x2 x3 x4 x5
  · rw [if_neg e]
    exact lwC_ok11 iv x1 x2 x3 x4 x5 t7
theorem lwC_ok9 {xs : Nat → Int32} {L : Nat} {v : Int32} {h : aH} {a1 a2 a3 a4 a5 : Int32} (iv : Inv h) (x1 : xld xs L (v + (1 : Int32)) = some a1) (x2 : xld xs L (v + (2 : Int32)) = some a2) (x3 : xld xs L (v + (3 : Int32)) = some a3) (x4 : xld xs L (v + (4 : Int32)) = some a4) (x5 : xld xs L (v + (5 : Int32)) = some a5) (t7 : Int32) : LG (lwC_9 xs L v h t7) v := by
  unfold lwC_9
  by_cases e : (t7 &&& (63 : Int32)) = (9 : Int32)
  · rw [if_pos e]
    exact lw_9 iv x1 x2 x3 x4 x5
  · rw [if_neg e]
    exact lwC_ok10 iv x1 x2 x3 x4 x5 t7
theorem lwC_ok8 {xs : Nat → Int32} {L : Nat} {v : Int32} {h : aH} {a1 a2 a3 a4 a5 : Int32} (iv : Inv h) (x1 : xld xs L (v + (1 : Int32)) = some a1) (x2 : xld xs L (v + (2 : Int32)) = some a2) (x3 : xld xs L (v + (3 : Int32)) = some a3) (x4 : xld xs L (v + (4 : Int32)) = some a4) (x5 : xld xs L (v + (5 : Int32)) = some a5) (t7 : Int32) : LG (lwC_8 xs L v h t7) v := by
  unfold lwC_8
  by_cases e : (t7 &&& (63 : Int32)) = (8 : Int32)
  · rw [if_pos e]
    exact lw_8 iv x1 x2 x3 x4 x5
  · rw [if_neg e]
    exact lwC_ok9 iv x1 x2 x3 x4 x5 t7
theorem lwC_ok7 {xs : Nat → Int32} {L : Nat} {v : Int32} {h : aH} {a1 a2 a3 a4 a5 : Int32} (iv : Inv h) (x1 : xld xs L (v + (1 : Int32)) = some a1) (x2 : xld xs L (v + (2 : Int32)) = some a2) (x3 : xld xs L (v + (3 : Int32)) = some a3) (x4 : xld xs L (v + (4 : Int32)) = some a4) (x5 : xld xs L (v + (5 : Int32)) = some a5) (t7 : Int32) : LG (lwC_7 xs L v h t7) v := by
  unfold lwC_7
  by_cases e : (t7 &&& (63 : Int32)) = (7 : Int32)
  · rw [if_pos e]
    exact lw_7 iv x1 x2 x3 x4 x5
  · rw [if_neg e]
    exact lwC_ok8 iv x1 x2 x3 x4 x5 t7
theorem lwC_ok6 {xs : Nat → Int32} {L : Nat} {v : Int32} {h : aH} {a1 a2 a3 a4 a5 : Int32} (iv : Inv h) (x1 : xld xs L (v + (1 : Int32)) = some a1) (x2 : xld xs L (v + (2 : Int32)) = some a2) (x3 : xld xs L (v + (3 : Int32)) = some a3) (x4 : xld xs L (v + (4 : Int32)) = some a4) (x5 : xld xs L (v + (5 : Int32)) = some a5) (t7 : Int32) : LG (lwC_6 xs L v h t7) v := by
  unfold lwC_6
  by_cases e : (t7 &&& (63 : Int32)) = (6 : Int32)
  · rw [if_pos e]
    exact lw_6 iv x1 x2 x3 x4 x5
  · rw [if_neg e]
    exact lwC_ok7 iv x1 x2 x3 x4 x5 t7
theorem lwC_ok5 {xs : Nat → Int32} {L : Nat} {v : Int32} {h : aH} {a1 a2 a3 a4 a5 : Int32} (iv : Inv h) (x1 : xld xs L (v + (1 : Int32)) = some a1) (x2 : xld xs L (v + (2 : Int32)) = some a2) (x3 : xld xs L (v + (3 : Int32)) = some a3) (x4 : xld xs L (v + (4 : Int32)) = some a4) (x5 : xld xs L (v + (5 : Int32)) = some a5) (t7 : Int32) : LG (lwC_5 xs L v h t7) v := by
  unfold lwC_5
  by_cases e : (t7 &&& (63 : Int32)) = (5 : Int32)
  · rw [if_pos e]
    exact lw_5 iv x1 x2 x3 x4 x5
  · rw [if_neg e]
    exact lwC_ok6 iv x1 x2 x3 x4 x5 t7
theorem lwC_ok4 {xs : Nat → Int32} {L : Nat} {v : Int32} {h : aH} {a1 a2 a3 a4 a5 : Int32} (iv : Inv h) (x1 : xld xs L (v + (1 : Int32)) = some a1) (x2 : xld xs L (v + (2 : Int32)) = some a2) (x3 : xld xs L (v + (3 : Int32)) = some a3) (x4 : xld xs L (v + (4 : Int32)) = some a4) (x5 : xld xs L (v + (5 : Int32)) = some a5) (t7 : Int32) : LG (lwC_4 xs L v h t7) v := by
  unfold lwC_4
  by_cases e : (t7 &&& (63 : Int32)) = (4 : Int32)
  · rw [if_pos e]
    exact lw_4 iv x1 x2 x3 x4 x5
  · rw [if_neg e]
    exact lwC_ok5 iv x1 x2 x3 x4 x5 t7
theorem lwC_ok3 {xs : Nat → Int32} {L : Nat} {v : Int32} {h : aH} {a1 a2 a3 a4 a5 : Int32} (iv : Inv h) (x1 : xld xs L (v + (1 : Int32)) = some a1) (x2 : xld xs L (v + (2 : Int32)) = some a2) (x3 : xld xs L (v + (3 : Int32)) = some a3) (x4 : xld xs L (v + (4 : Int32)) = some a4) (x5 : xld xs L (v + (5 : Int32)) = some a5) (t7 : Int32) : LG (lwC_3 xs L v h t7) v := by
  unfold lwC_3
  by_cases e : (t7 &&& (63 : Int32)) = (3 : Int32)
  · rw [if_pos e]
    exact lw_3 iv x1 x2 x3 x4 x5
  · rw [if_neg e]
    exact lwC_ok4 iv x1 x2 x3 x4 x5 t7
theorem lwC_ok2 {xs : Nat → Int32} {L : Nat} {v : Int32} {h : aH} {a1 a2 a3 a4 a5 : Int32} (iv : Inv h) (x1 : xld xs L (v + (1 : Int32)) = some a1) (x2 : xld xs L (v + (2 : Int32)) = some a2) (x3 : xld xs L (v + (3 : Int32)) = some a3) (x4 : xld xs L (v + (4 : Int32)) = some a4) (x5 : xld xs L (v + (5 : Int32)) = some a5) (t7 : Int32) : LG (lwC_2 xs L v h t7) v := by
  unfold lwC_2
  by_cases e : (t7 &&& (63 : Int32)) = (2 : Int32)
  · rw [if_pos e]
    exact lw_2 iv x1 x2 x3 x4 x5
  · rw [if_neg e]
    exact lwC_ok3 iv x1 x2 x3 x4 x5 t7
theorem lwC_ok1 {xs : Nat → Int32} {L : Nat} {v : Int32} {h : aH} {a1 a2 a3 a4 a5 : Int32} (iv : Inv h) (x1 : xld xs L (v + (1 : Int32)) = some a1) (x2 : xld xs L (v + (2 : Int32)) = some a2) (x3 : xld xs L (v + (3 : Int32)) = some a3) (x4 : xld xs L (v + (4 : Int32)) = some a4) (x5 : xld xs L (v + (5 : Int32)) = some a5) (t7 : Int32) : LG (lwC_1 xs L v h t7) v := by
  unfold lwC_1
  by_cases e : (t7 &&& (63 : Int32)) = (1 : Int32)
  · rw [if_pos e]
    exact lw_1 iv x1 x2 x3 x4 x5
  · rw [if_neg e]
    exact lwC_ok2 iv x1 x2 x3 x4 x5 t7
theorem lwC_ok0 {xs : Nat → Int32} {L : Nat} {v : Int32} {h : aH} {a1 a2 a3 a4 a5 : Int32} (iv : Inv h) (x1 : xld xs L (v + (1 : Int32)) = some a1) (x2 : xld xs L (v + (2 : Int32)) = some a2) (x3 : xld xs L (v + (3 : Int32)) = some a3) (x4 : xld xs L (v + (4 : Int32)) = some a4) (x5 : xld xs L (v + (5 : Int32)) = some a5) (t7 : Int32) : LG (lwC_0 xs L v h t7) v := by
  unfold lwC_0
  by_cases e : (t7 &&& (63 : Int32)) = (0 : Int32)
  · rw [if_pos e]
    exact lw_0 iv x1 x2 x3 x4 x5
  · rw [if_neg e]
    exact lwC_ok1 iv x1 x2 x3 x4 x5 t7
theorem xld_ok {xs : Nat → Int32} {L i : Nat} (hL : L ≤ 3072) (hi : i < L) : xld xs L (nI i) = some (xs i) := by
  unfold xld
  have e : (nI i).toNatClampNeg = i := nI_clamp (by omega)
  have p : ¬ nI i < 0 := by
    rw [Int32.lt_iff_toInt_lt, nI_toInt (by omega)]
    show ¬ ((i : Int) < 0)
    omega
  rw [e, if_pos ⟨p, hi⟩]
theorem lw_loop {xs : Nat → Int32} {L : Nat} (hL : L ≤ 3072) : ∀ (g i F : Nat) (h : aH), Inv h → i ≤ 3078 → L < i + 6 + 6 * g → g < F → ∃ h', whileL F (fun q : Int32 × aH => f_L_law_b18 xs L 5 0 113 q.1 q.2) (nI i, h) = some (.inr h')
  | g, i, 0, h, iv, hi, hg, hF => absurd hF (by omega)
  | g, i, F + 1, h, iv, hi, hg, hF => by
    by_cases cH : (Int32.ofNat L - (6 : Int32)) < nI i
    · have e : (fun q : Int32 × aH => f_L_law_b18 xs L 5 0 113 q.1 q.2) (nI i, h) = some (.inr (.inr h)) := by
        show f_L_law_b18 xs L 5 0 113 (nI i) h = _
        rw [lw_cut, if_pos cH]
      exact ⟨h, wl_r e⟩
    · have i6 := bd_j hL hi cH
      match g, hg, hF with
      | 0, hg, hF => exact absurd hg (by omega)
      | g + 1, hg, hF =>
        have x0 := xld_ok (xs := xs) hL (show i < L by omega)
        have xk : ∀ k, k < 6 → xld xs L (nI i + nI k) = some (xs (i + k)) := fun k hk => by
          rw [nI_add i k]
          exact xld_ok hL (by omega)
        obtain ⟨h2, e2, iv2⟩ := lwC_ok0 (v := nI i) iv (xk 1 (by decide)) (xk 2 (by decide)) (xk 3 (by decide)) (xk 4 (by decide)) (xk 5 (by decide)) (xs i)
        have e : (fun q : Int32 × aH => f_L_law_b18 xs L 5 0 113 q.1 q.2) (nI i, h) = some (.inl (nI (i + 6), h2)) := by
          show f_L_law_b18 xs L 5 0 113 (nI i) h = _
          rw [lw_cut, if_neg cH, x0, Option.bind_some, e2, ← nI_add i 6]
          rfl
        rw [wl_l e]
        exact lw_loop hL g (i + 6) F h2 iv2 (by omega) (by omega) (by omega)
