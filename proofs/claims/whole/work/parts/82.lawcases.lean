theorem ev_wid {X : mX} {M : mMD} {f f' : Option Nat} {ce sl ce2 sl2 mc ms pc : Nat} {L st : List Value} {h : mH} {Q : mO → mH → Prop} (h1 : ce ≤ ce2) (h2 : sl ≤ sl2) (k : Ev X M (f, f', ce2, sl2, mc, ms) pc L st h Q) : Ev X M (f, f', ce, sl, mc, ms) pc L st h Q := fun p e s m args below meth c H locs ls R C hc hs hW hS hL => W.widen h1 h2 (k p e s m args below meth c H locs ls R C hc hs hW hS hL)
set_option maxHeartbeats 4000000 in
set_option maxRecDepth 100000 in
theorem cl_put {X : mX} (hR : RO X) {h : mH} {A : mAs} (J : JA h A) {L : Nat} {xs : Nat → Int32} (hsc : xro X (1000000 + 3) = some (L, xs)) {i : Nat} (hi : i + 3 < L) (hL : L ≤ 2048) {ce sl : Nat} (hce : ce + 1 ≤ 601024) (hsl : sl + 6 ≤ 7293033) {Q : mO → mH → Prop} (KK : ∀ h2 A', JA h2 A' → Ev X m_L_law (none, none, ce + 1, sl + 6, 601024, 7293033) 1455 [.ref (1000000 + 3), .ref 0, .ref 270, .ref 283, .int (nI i), jk, jk, jk, jk] [] h2 Q) : Ev X m_L_law (none, none, ce, sl, 601024, 7293033) 148 [.ref (1000000 + 3), .ref 0, .ref 270, .ref 283, .int (nI i), jk, jk, jk, jk] [] h Q := by
  obtain ⟨hA, hI, ⟨k0, gz, gc, gs, gh, gk, gl, gb, gx, ⟨gr, gm, gp, gq, ge, gn, go, gu, gi, ga, gv, gw, hm⟩, -⟩, hO⟩ := id J
  have a0 := hA.1
  have m270 := hm.1
  obtain ⟨k, x, A', hI', hk, hlaw, hmod⟩ := ag_put hR J (xs (i + 1))
  refine ev_aload_n dL_law_148 rfl rfl ?_
  refine ev_aload_n dL_law_149 rfl rfl ?_
  refine ev_iload dL_law_150 rfl ?_
  refine ev_iconst (nI 1) dL_law_152 rfl ?_
  refine ev_iaddN dL_law_153 ?_
  refine ev_ialoadRN dL_law_154 hsc (by omega) (by omega) ?_
  refine ev_aload_n dL_law_155 rfl rfl ?_
  refine ev_callH (as := [.ref 0, .int _, .ref 283]) dL_law_156 cal_L_put lk_8_77 ⟨(Nat.le_of_ble_eq_true rfl), (Nat.le_of_ble_eq_true rfl)⟩ rfl rfl (Nat.le_of_ble_eq_true rfl) hlaw (by omega) (by omega) (fun v h1 q => ?_) (fun k1 h1 q => by cases q.1)
  obtain ⟨q1, hJL, hout⟩ := q
  cases q1
  refine ev_pc (pc' := 159) rfl ?_
  refine ev_istore (L' := [_, _, _, _, _, _, _, _, _]) dL_law_159 (Nat.le_of_ble_eq_true rfl) rfl ?_
  refine ev_aload_n dL_law_161 rfl rfl ?_
  refine ev_aload_n dL_law_162 rfl rfl ?_
  refine ev_iload dL_law_163 rfl ?_
  refine ev_iconst (nI 1) dL_law_165 rfl ?_
  refine ev_iaddN dL_law_166 ?_
  refine ev_ialoadRN dL_law_167 hsc (by omega) (by omega) ?_
  refine ev_callV (as := [.int _]) dL_law_168 cal_X7_put lk_8_82 ⟨(Nat.le_of_ble_eq_true rfl), (Nat.le_of_ble_eq_true rfl)⟩ rfl ((hJL.2.2 270 (by decide) (by decide)).trans m270) rfl (Nat.le_of_ble_eq_true rfl) (hmod h1 hJL) (by omega) (by omega) (fun v h2 q => ?_) (fun k1 h2 q => by obtain ⟨v, e, -⟩ := q; cases e)
  obtain ⟨v2, e2, ⟨b, rfl, hb⟩, hMd, o2⟩ := q
  cases e2
  obtain ⟨gz2, gc2, gs2, gh2, gk2, gl2, gb2, gx2, ⟨_, _, _, _, _, _, _, _, _, _, _, _, hm2⟩, -⟩ := id hMd
  obtain ⟨g1, hg1⟩ := hJL.2.1
  have hJ2 : JA h2 A' := ⟨hJL.1.go o2 (by decide), hI', ⟨k, hMd⟩, ⟨g1, (o2 283 (by decide)).trans hg1⟩⟩
  refine ev_pc (pc' := 171) rfl ?_
  refine ev_istore (L' := [_, _, _, _, _, _, _, _, _]) dL_law_171 (Nat.le_of_ble_eq_true rfl) rfl ?_
  refine ev_aload_n dL_law_173 rfl rfl ?_
  refine ev_callV (as := []) dL_law_174 cal_X7_thrown lk_8_83 ⟨(Nat.le_of_ble_eq_true rfl), (Nat.le_of_ble_eq_true rfl)⟩ rfl hm2.1 rfl (Nat.le_of_ble_eq_true rfl) (k_thrown hm2) (by omega) (by omega) (fun v h3 q => ?_) (fun k1 h3 q => by cases q.1)
  obtain ⟨q1, rfl⟩ := q
  cases q1
  refine ev_pc (pc' := 177) rfl ?_
  refine ev_iload dL_law_177 rfl ?_
  refine ev_icmp_eqN 184 dL_law_179 rfl (by omega) (by omega) (fun _ => ?_) (fun z => absurd rfl z)
  refine ev_iload dL_law_184 rfl ?_
  refine ev_if_neN 201 dL_law_186 rfl (by omega) (fun hk0 => ?_) (fun hk0 => ?_)
  · refine ev_goto 1455 dL_law_201 rfl ?_
    refine ev_fgt 5 (L' := [_, _, _, _, _, _, _, _, _]) rfl ?_
    refine ev_fgt 6 (L' := [_, _, _, _, _, _, _, _, _]) rfl ?_
    exact KK _ A' hJ2
  · obtain ⟨g, hg, hgx⟩ := hout hk0
    have hg2 : _ = some (aL 1 g) := (o2 283 (by decide)).trans hg
    have hbx := hb hk0
    refine ev_aload_n dL_law_189 rfl rfl ?_
    refine ev_iconst (nI 0) dL_law_190 rfl ?_
    refine ev_laloadN dL_law_191 hg2 (by decide) (by decide) ?_
    refine ev_iload dL_law_192 rfl ?_
    refine ev_i2l dL_law_194 ?_
    refine ev_lcmp_eq 201 dL_law_195 dL_law_196 rfl (fun _ => ?_) (fun z => absurd (by rw [hgx, hbx]) z)
    refine ev_goto 1455 dL_law_201 rfl ?_
    refine ev_fgt 5 (L' := [_, _, _, _, _, _, _, _, _]) rfl ?_
    refine ev_fgt 6 (L' := [_, _, _, _, _, _, _, _, _]) rfl ?_
    exact KK _ A' hJ2
set_option maxHeartbeats 4000000 in
set_option maxRecDepth 100000 in
theorem cl_insert {X : mX} (hR : RO X) {h : mH} {A : mAs} (J : JA h A) {L : Nat} {xs : Nat → Int32} (hsc : xro X (1000000 + 3) = some (L, xs)) {i : Nat} (hi : i + 3 < L) (hL : L ≤ 2048) {ce sl : Nat} (hce : ce + 1 ≤ 601024) (hsl : sl + 6 ≤ 7293033) {Q : mO → mH → Prop} (KK : ∀ h2 A', JA h2 A' → Ev X m_L_law (none, none, ce + 1, sl + 6, 601024, 7293033) 1455 [.ref (1000000 + 3), .ref 0, .ref 270, .ref 283, .int (nI i), jk, jk, jk, jk] [] h2 Q) : Ev X m_L_law (none, none, ce, sl, 601024, 7293033) 204 [.ref (1000000 + 3), .ref 0, .ref 270, .ref 283, .int (nI i), jk, jk, jk, jk] [] h Q := by
  obtain ⟨hA, hI, ⟨k0, gz, gc, gs, gh, gk, gl, gb, gx, ⟨gr, gm, gp, gq, ge, gn, go, gu, gi, ga, gv, gw, hm⟩, -⟩, hO⟩ := id J
  have a0 := hA.1
  have m270 := hm.1
  obtain ⟨k, x, A', hI', hk, hlaw, hmod⟩ := ag_insert hR J (xs (i + 1)) (xs (i + 2))
  refine ev_aload_n dL_law_204 rfl rfl ?_
  refine ev_aload_n dL_law_205 rfl rfl ?_
  refine ev_iload dL_law_206 rfl ?_
  refine ev_iconst (nI 1) dL_law_208 rfl ?_
  refine ev_iaddN dL_law_209 ?_
  refine ev_ialoadRN dL_law_210 hsc (by omega) (by omega) ?_
  refine ev_aload_n dL_law_211 rfl rfl ?_
  refine ev_iload dL_law_212 rfl ?_
  refine ev_iconst (nI 2) dL_law_214 rfl ?_
  refine ev_iaddN dL_law_215 ?_
  refine ev_ialoadRN dL_law_216 hsc (by omega) (by omega) ?_
  refine ev_aload_n dL_law_217 rfl rfl ?_
  refine ev_callH (as := [.ref 0, .int _, .int _, .ref 283]) dL_law_218 cal_L_insert lk_8_86 ⟨(Nat.le_of_ble_eq_true rfl), (Nat.le_of_ble_eq_true rfl)⟩ rfl rfl (Nat.le_of_ble_eq_true rfl) hlaw (by omega) (by omega) (fun v h1 q => ?_) (fun k1 h1 q => by cases q.1)
  obtain ⟨q1, hJL, hout⟩ := q
  cases q1
  refine ev_pc (pc' := 221) rfl ?_
  refine ev_istore (L' := [_, _, _, _, _, _, _, _, _]) dL_law_221 (Nat.le_of_ble_eq_true rfl) rfl ?_
  refine ev_aload_n dL_law_223 rfl rfl ?_
  refine ev_aload_n dL_law_224 rfl rfl ?_
  refine ev_iload dL_law_225 rfl ?_
  refine ev_iconst (nI 1) dL_law_227 rfl ?_
  refine ev_iaddN dL_law_228 ?_
  refine ev_ialoadRN dL_law_229 hsc (by omega) (by omega) ?_
  refine ev_aload_n dL_law_230 rfl rfl ?_
  refine ev_iload dL_law_231 rfl ?_
  refine ev_iconst (nI 2) dL_law_233 rfl ?_
  refine ev_iaddN dL_law_234 ?_
  refine ev_ialoadRN dL_law_235 hsc (by omega) (by omega) ?_
  refine ev_callV (as := [.int _, .int _]) dL_law_236 cal_X7_insert lk_8_89 ⟨(Nat.le_of_ble_eq_true rfl), (Nat.le_of_ble_eq_true rfl)⟩ rfl ((hJL.2.2 270 (by decide) (by decide)).trans m270) rfl (Nat.le_of_ble_eq_true rfl) (hmod h1 hJL) (by omega) (by omega) (fun v h2 q => ?_) (fun k1 h2 q => by obtain ⟨v, e, -⟩ := q; cases e)
  obtain ⟨v2, e2, ⟨b, rfl, hb⟩, hMd, o2⟩ := q
  cases e2
  obtain ⟨gz2, gc2, gs2, gh2, gk2, gl2, gb2, gx2, ⟨_, _, _, _, _, _, _, _, _, _, _, _, hm2⟩, -⟩ := id hMd
  obtain ⟨g1, hg1⟩ := hJL.2.1
  have hJ2 : JA h2 A' := ⟨hJL.1.go o2 (by decide), hI', ⟨k, hMd⟩, ⟨g1, (o2 283 (by decide)).trans hg1⟩⟩
  refine ev_pc (pc' := 239) rfl ?_
  refine ev_istore (L' := [_, _, _, _, _, _, _, _, _]) dL_law_239 (Nat.le_of_ble_eq_true rfl) rfl ?_
  refine ev_aload_n dL_law_241 rfl rfl ?_
  refine ev_callV (as := []) dL_law_242 cal_X7_thrown lk_8_83 ⟨(Nat.le_of_ble_eq_true rfl), (Nat.le_of_ble_eq_true rfl)⟩ rfl hm2.1 rfl (Nat.le_of_ble_eq_true rfl) (k_thrown hm2) (by omega) (by omega) (fun v h3 q => ?_) (fun k1 h3 q => by cases q.1)
  obtain ⟨q1, rfl⟩ := q
  cases q1
  refine ev_pc (pc' := 245) rfl ?_
  refine ev_iload dL_law_245 rfl ?_
  refine ev_icmp_eqN 252 dL_law_247 rfl (by omega) (by omega) (fun _ => ?_) (fun z => absurd rfl z)
  refine ev_iload dL_law_252 rfl ?_
  refine ev_if_neN 269 dL_law_254 rfl (by omega) (fun hk0 => ?_) (fun hk0 => ?_)
  · refine ev_goto 1455 dL_law_269 rfl ?_
    refine ev_fgt 5 (L' := [_, _, _, _, _, _, _, _, _]) rfl ?_
    refine ev_fgt 6 (L' := [_, _, _, _, _, _, _, _, _]) rfl ?_
    exact KK _ A' hJ2
  · obtain ⟨g, hg, hgx⟩ := hout hk0
    have hg2 : _ = some (aL 1 g) := (o2 283 (by decide)).trans hg
    have hbx := hb hk0
    refine ev_aload_n dL_law_257 rfl rfl ?_
    refine ev_iconst (nI 0) dL_law_258 rfl ?_
    refine ev_laloadN dL_law_259 hg2 (by decide) (by decide) ?_
    refine ev_iload dL_law_260 rfl ?_
    refine ev_i2l dL_law_262 ?_
    refine ev_lcmp_eq 269 dL_law_263 dL_law_264 rfl (fun _ => ?_) (fun z => absurd (by rw [hgx, hbx]) z)
    refine ev_goto 1455 dL_law_269 rfl ?_
    refine ev_fgt 5 (L' := [_, _, _, _, _, _, _, _, _]) rfl ?_
    refine ev_fgt 6 (L' := [_, _, _, _, _, _, _, _, _]) rfl ?_
    exact KK _ A' hJ2
set_option maxHeartbeats 4000000 in
set_option maxRecDepth 100000 in
theorem cl_takeOut {X : mX} (hR : RO X) {h : mH} {A : mAs} (J : JA h A) {L : Nat} {xs : Nat → Int32} (hsc : xro X (1000000 + 3) = some (L, xs)) {i : Nat} (hi : i + 3 < L) (hL : L ≤ 2048) {ce sl : Nat} (hce : ce + 1 ≤ 601024) (hsl : sl + 6 ≤ 7293033) {Q : mO → mH → Prop} (KK : ∀ h2 A', JA h2 A' → Ev X m_L_law (none, none, ce + 1, sl + 6, 601024, 7293033) 1455 [.ref (1000000 + 3), .ref 0, .ref 270, .ref 283, .int (nI i), jk, jk, jk, jk] [] h2 Q) : Ev X m_L_law (none, none, ce, sl, 601024, 7293033) 272 [.ref (1000000 + 3), .ref 0, .ref 270, .ref 283, .int (nI i), jk, jk, jk, jk] [] h Q := by
  obtain ⟨hA, hI, ⟨k0, gz, gc, gs, gh, gk, gl, gb, gx, ⟨gr, gm, gp, gq, ge, gn, go, gu, gi, ga, gv, gw, hm⟩, -⟩, hO⟩ := id J
  have a0 := hA.1
  have m270 := hm.1
  obtain ⟨k, x, A', hI', hk, hlaw, hmod⟩ := ag_takeOut hR J (xs (i + 1)) (xs (i + 2)) (xs (i + 3))
  refine ev_aload_n dL_law_272 rfl rfl ?_
  refine ev_aload_n dL_law_273 rfl rfl ?_
  refine ev_iload dL_law_274 rfl ?_
  refine ev_iconst (nI 1) dL_law_276 rfl ?_
  refine ev_iaddN dL_law_277 ?_
  refine ev_ialoadRN dL_law_278 hsc (by omega) (by omega) ?_
  refine ev_aload_n dL_law_279 rfl rfl ?_
  refine ev_iload dL_law_280 rfl ?_
  refine ev_iconst (nI 2) dL_law_282 rfl ?_
  refine ev_iaddN dL_law_283 ?_
  refine ev_ialoadRN dL_law_284 hsc (by omega) (by omega) ?_
  refine ev_aload_n dL_law_285 rfl rfl ?_
  refine ev_iload dL_law_286 rfl ?_
  refine ev_iconst (nI 3) dL_law_288 rfl ?_
  refine ev_iaddN dL_law_289 ?_
  refine ev_ialoadRN dL_law_290 hsc (by omega) (by omega) ?_
  refine ev_aload_n dL_law_291 rfl rfl ?_
  refine ev_callH (as := [.ref 0, .int _, .int _, .int _, .ref 283]) dL_law_292 cal_L_takeOut lk_8_90 ⟨(Nat.le_of_ble_eq_true rfl), (Nat.le_of_ble_eq_true rfl)⟩ rfl rfl (Nat.le_of_ble_eq_true rfl) hlaw (by omega) (by omega) (fun v h1 q => ?_) (fun k1 h1 q => by cases q.1)
  obtain ⟨q1, hJL, hout⟩ := q
  cases q1
  refine ev_pc (pc' := 295) rfl ?_
  refine ev_istore (L' := [_, _, _, _, _, _, _, _, _]) dL_law_295 (Nat.le_of_ble_eq_true rfl) rfl ?_
  refine ev_aload_n dL_law_297 rfl rfl ?_
  refine ev_aload_n dL_law_298 rfl rfl ?_
  refine ev_iload dL_law_299 rfl ?_
  refine ev_iconst (nI 1) dL_law_301 rfl ?_
  refine ev_iaddN dL_law_302 ?_
  refine ev_ialoadRN dL_law_303 hsc (by omega) (by omega) ?_
  refine ev_aload_n dL_law_304 rfl rfl ?_
  refine ev_iload dL_law_305 rfl ?_
  refine ev_iconst (nI 2) dL_law_307 rfl ?_
  refine ev_iaddN dL_law_308 ?_
  refine ev_ialoadRN dL_law_309 hsc (by omega) (by omega) ?_
  refine ev_aload_n dL_law_310 rfl rfl ?_
  refine ev_iload dL_law_311 rfl ?_
  refine ev_iconst (nI 3) dL_law_313 rfl ?_
  refine ev_iaddN dL_law_314 ?_
  refine ev_ialoadRN dL_law_315 hsc (by omega) (by omega) ?_
  refine ev_callV (as := [.int _, .int _, .int _]) dL_law_316 cal_X7_takeOut lk_8_93 ⟨(Nat.le_of_ble_eq_true rfl), (Nat.le_of_ble_eq_true rfl)⟩ rfl ((hJL.2.2 270 (by decide) (by decide)).trans m270) rfl (Nat.le_of_ble_eq_true rfl) (hmod h1 hJL) (by omega) (by omega) (fun v h2 q => ?_) (fun k1 h2 q => by obtain ⟨v, e, -⟩ := q; cases e)
  obtain ⟨v2, e2, ⟨b, rfl, hb⟩, hMd, o2⟩ := q
  cases e2
  obtain ⟨gz2, gc2, gs2, gh2, gk2, gl2, gb2, gx2, ⟨_, _, _, _, _, _, _, _, _, _, _, _, hm2⟩, -⟩ := id hMd
  obtain ⟨g1, hg1⟩ := hJL.2.1
  have hJ2 : JA h2 A' := ⟨hJL.1.go o2 (by decide), hI', ⟨k, hMd⟩, ⟨g1, (o2 283 (by decide)).trans hg1⟩⟩
  refine ev_pc (pc' := 319) rfl ?_
  refine ev_istore (L' := [_, _, _, _, _, _, _, _, _]) dL_law_319 (Nat.le_of_ble_eq_true rfl) rfl ?_
  refine ev_aload_n dL_law_321 rfl rfl ?_
  refine ev_callV (as := []) dL_law_322 cal_X7_thrown lk_8_83 ⟨(Nat.le_of_ble_eq_true rfl), (Nat.le_of_ble_eq_true rfl)⟩ rfl hm2.1 rfl (Nat.le_of_ble_eq_true rfl) (k_thrown hm2) (by omega) (by omega) (fun v h3 q => ?_) (fun k1 h3 q => by cases q.1)
  obtain ⟨q1, rfl⟩ := q
  cases q1
  refine ev_pc (pc' := 325) rfl ?_
  refine ev_iload dL_law_325 rfl ?_
  refine ev_icmp_eqN 332 dL_law_327 rfl (by omega) (by omega) (fun _ => ?_) (fun z => absurd rfl z)
  refine ev_iload dL_law_332 rfl ?_
  refine ev_if_neN 349 dL_law_334 rfl (by omega) (fun hk0 => ?_) (fun hk0 => ?_)
  · refine ev_goto 1455 dL_law_349 rfl ?_
    refine ev_fgt 5 (L' := [_, _, _, _, _, _, _, _, _]) rfl ?_
    refine ev_fgt 6 (L' := [_, _, _, _, _, _, _, _, _]) rfl ?_
    exact KK _ A' hJ2
  · obtain ⟨g, hg, hgx⟩ := hout hk0
    have hg2 : _ = some (aL 1 g) := (o2 283 (by decide)).trans hg
    have hbx := hb hk0
    refine ev_aload_n dL_law_337 rfl rfl ?_
    refine ev_iconst (nI 0) dL_law_338 rfl ?_
    refine ev_laloadN dL_law_339 hg2 (by decide) (by decide) ?_
    refine ev_iload dL_law_340 rfl ?_
    refine ev_i2l dL_law_342 ?_
    refine ev_lcmp_eq 349 dL_law_343 dL_law_344 rfl (fun _ => ?_) (fun z => absurd (by rw [hgx, hbx]) z)
    refine ev_goto 1455 dL_law_349 rfl ?_
    refine ev_fgt 5 (L' := [_, _, _, _, _, _, _, _, _]) rfl ?_
    refine ev_fgt 6 (L' := [_, _, _, _, _, _, _, _, _]) rfl ?_
    exact KK _ A' hJ2
set_option maxHeartbeats 4000000 in
set_option maxRecDepth 100000 in
theorem cl_copy {X : mX} (hR : RO X) {h : mH} {A : mAs} (J : JA h A) {L : Nat} {xs : Nat → Int32} (hsc : xro X (1000000 + 3) = some (L, xs)) {i : Nat} (hi : i + 3 < L) (hL : L ≤ 2048) {ce sl : Nat} (hce : ce + 1 ≤ 601024) (hsl : sl + 6 ≤ 7293033) {Q : mO → mH → Prop} (KK : ∀ h2 A', JA h2 A' → Ev X m_L_law (none, none, ce + 1, sl + 6, 601024, 7293033) 1455 [.ref (1000000 + 3), .ref 0, .ref 270, .ref 283, .int (nI i), jk, jk, jk, jk] [] h2 Q) : Ev X m_L_law (none, none, ce, sl, 601024, 7293033) 352 [.ref (1000000 + 3), .ref 0, .ref 270, .ref 283, .int (nI i), jk, jk, jk, jk] [] h Q := by
  obtain ⟨hA, hI, ⟨k0, gz, gc, gs, gh, gk, gl, gb, gx, ⟨gr, gm, gp, gq, ge, gn, go, gu, gi, ga, gv, gw, hm⟩, -⟩, hO⟩ := id J
  have a0 := hA.1
  have m270 := hm.1
  obtain ⟨k, x, A', hI', hk, hlaw, hmod⟩ := ag_copy hR J (xs (i + 1)) (xs (i + 2))
  refine ev_aload_n dL_law_352 rfl rfl ?_
  refine ev_aload_n dL_law_353 rfl rfl ?_
  refine ev_iload dL_law_354 rfl ?_
  refine ev_iconst (nI 1) dL_law_356 rfl ?_
  refine ev_iaddN dL_law_357 ?_
  refine ev_ialoadRN dL_law_358 hsc (by omega) (by omega) ?_
  refine ev_aload_n dL_law_359 rfl rfl ?_
  refine ev_iload dL_law_360 rfl ?_
  refine ev_iconst (nI 2) dL_law_362 rfl ?_
  refine ev_iaddN dL_law_363 ?_
  refine ev_ialoadRN dL_law_364 hsc (by omega) (by omega) ?_
  refine ev_aload_n dL_law_365 rfl rfl ?_
  refine ev_callH (as := [.ref 0, .int _, .int _, .ref 283]) dL_law_366 cal_L_copy lk_8_94 ⟨(Nat.le_of_ble_eq_true rfl), (Nat.le_of_ble_eq_true rfl)⟩ rfl rfl (Nat.le_of_ble_eq_true rfl) hlaw (by omega) (by omega) (fun v h1 q => ?_) (fun k1 h1 q => by cases q.1)
  obtain ⟨q1, hJL, hout⟩ := q
  cases q1
  refine ev_pc (pc' := 369) rfl ?_
  refine ev_istore (L' := [_, _, _, _, _, _, _, _, _]) dL_law_369 (Nat.le_of_ble_eq_true rfl) rfl ?_
  refine ev_aload_n dL_law_371 rfl rfl ?_
  refine ev_aload_n dL_law_372 rfl rfl ?_
  refine ev_iload dL_law_373 rfl ?_
  refine ev_iconst (nI 1) dL_law_375 rfl ?_
  refine ev_iaddN dL_law_376 ?_
  refine ev_ialoadRN dL_law_377 hsc (by omega) (by omega) ?_
  refine ev_aload_n dL_law_378 rfl rfl ?_
  refine ev_iload dL_law_379 rfl ?_
  refine ev_iconst (nI 2) dL_law_381 rfl ?_
  refine ev_iaddN dL_law_382 ?_
  refine ev_ialoadRN dL_law_383 hsc (by omega) (by omega) ?_
  refine ev_callV (as := [.int _, .int _]) dL_law_384 cal_X7_copy lk_8_96 ⟨(Nat.le_of_ble_eq_true rfl), (Nat.le_of_ble_eq_true rfl)⟩ rfl ((hJL.2.2 270 (by decide) (by decide)).trans m270) rfl (Nat.le_of_ble_eq_true rfl) (hmod h1 hJL) (by omega) (by omega) (fun v h2 q => ?_) (fun k1 h2 q => by obtain ⟨v, e, -⟩ := q; cases e)
  obtain ⟨v2, e2, ⟨b, rfl, hb⟩, hMd, o2⟩ := q
  cases e2
  obtain ⟨gz2, gc2, gs2, gh2, gk2, gl2, gb2, gx2, ⟨_, _, _, _, _, _, _, _, _, _, _, _, hm2⟩, -⟩ := id hMd
  obtain ⟨g1, hg1⟩ := hJL.2.1
  have hJ2 : JA h2 A' := ⟨hJL.1.go o2 (by decide), hI', ⟨k, hMd⟩, ⟨g1, (o2 283 (by decide)).trans hg1⟩⟩
  refine ev_pc (pc' := 387) rfl ?_
  refine ev_istore (L' := [_, _, _, _, _, _, _, _, _]) dL_law_387 (Nat.le_of_ble_eq_true rfl) rfl ?_
  refine ev_aload_n dL_law_389 rfl rfl ?_
  refine ev_callV (as := []) dL_law_390 cal_X7_thrown lk_8_83 ⟨(Nat.le_of_ble_eq_true rfl), (Nat.le_of_ble_eq_true rfl)⟩ rfl hm2.1 rfl (Nat.le_of_ble_eq_true rfl) (k_thrown hm2) (by omega) (by omega) (fun v h3 q => ?_) (fun k1 h3 q => by cases q.1)
  obtain ⟨q1, rfl⟩ := q
  cases q1
  refine ev_pc (pc' := 393) rfl ?_
  refine ev_iload dL_law_393 rfl ?_
  refine ev_icmp_eqN 400 dL_law_395 rfl (by omega) (by omega) (fun _ => ?_) (fun z => absurd rfl z)
  refine ev_iload dL_law_400 rfl ?_
  refine ev_if_neN 417 dL_law_402 rfl (by omega) (fun hk0 => ?_) (fun hk0 => ?_)
  · refine ev_goto 1455 dL_law_417 rfl ?_
    refine ev_fgt 5 (L' := [_, _, _, _, _, _, _, _, _]) rfl ?_
    refine ev_fgt 6 (L' := [_, _, _, _, _, _, _, _, _]) rfl ?_
    exact KK _ A' hJ2
  · obtain ⟨g, hg, hgx⟩ := hout hk0
    have hg2 : _ = some (aL 1 g) := (o2 283 (by decide)).trans hg
    have hbx := hb hk0
    refine ev_aload_n dL_law_405 rfl rfl ?_
    refine ev_iconst (nI 0) dL_law_406 rfl ?_
    refine ev_laloadN dL_law_407 hg2 (by decide) (by decide) ?_
    refine ev_iload dL_law_408 rfl ?_
    refine ev_i2l dL_law_410 ?_
    refine ev_lcmp_eq 417 dL_law_411 dL_law_412 rfl (fun _ => ?_) (fun z => absurd (by rw [hgx, hbx]) z)
    refine ev_goto 1455 dL_law_417 rfl ?_
    refine ev_fgt 5 (L' := [_, _, _, _, _, _, _, _, _]) rfl ?_
    refine ev_fgt 6 (L' := [_, _, _, _, _, _, _, _, _]) rfl ?_
    exact KK _ A' hJ2
set_option maxHeartbeats 4000000 in
set_option maxRecDepth 100000 in
theorem cl_rotate {X : mX} (hR : RO X) {h : mH} {A : mAs} (J : JA h A) {L : Nat} {xs : Nat → Int32} (hsc : xro X (1000000 + 3) = some (L, xs)) {i : Nat} (hi : i + 3 < L) (hL : L ≤ 2048) {ce sl : Nat} (hce : ce + 1 ≤ 601024) (hsl : sl + 6 ≤ 7293033) {Q : mO → mH → Prop} (KK : ∀ h2 A', JA h2 A' → Ev X m_L_law (none, none, ce + 1, sl + 6, 601024, 7293033) 1455 [.ref (1000000 + 3), .ref 0, .ref 270, .ref 283, .int (nI i), jk, jk, jk, jk] [] h2 Q) : Ev X m_L_law (none, none, ce, sl, 601024, 7293033) 420 [.ref (1000000 + 3), .ref 0, .ref 270, .ref 283, .int (nI i), jk, jk, jk, jk] [] h Q := by
  obtain ⟨hA, hI, ⟨k0, gz, gc, gs, gh, gk, gl, gb, gx, ⟨gr, gm, gp, gq, ge, gn, go, gu, gi, ga, gv, gw, hm⟩, -⟩, hO⟩ := id J
  have a0 := hA.1
  have m270 := hm.1
  obtain ⟨k, x, A', hI', hk, hlaw, hmod⟩ := ag_rotate hR J (xs (i + 1)) (xs (i + 2))
  refine ev_aload_n dL_law_420 rfl rfl ?_
  refine ev_aload_n dL_law_421 rfl rfl ?_
  refine ev_iload dL_law_422 rfl ?_
  refine ev_iconst (nI 1) dL_law_424 rfl ?_
  refine ev_iaddN dL_law_425 ?_
  refine ev_ialoadRN dL_law_426 hsc (by omega) (by omega) ?_
  refine ev_aload_n dL_law_427 rfl rfl ?_
  refine ev_iload dL_law_428 rfl ?_
  refine ev_iconst (nI 2) dL_law_430 rfl ?_
  refine ev_iaddN dL_law_431 ?_
  refine ev_ialoadRN dL_law_432 hsc (by omega) (by omega) ?_
  refine ev_aload_n dL_law_433 rfl rfl ?_
  refine ev_callH (as := [.ref 0, .int _, .int _, .ref 283]) dL_law_434 cal_L_rotate lk_8_97 ⟨(Nat.le_of_ble_eq_true rfl), (Nat.le_of_ble_eq_true rfl)⟩ rfl rfl (Nat.le_of_ble_eq_true rfl) hlaw (by omega) (by omega) (fun v h1 q => ?_) (fun k1 h1 q => by cases q.1)
  obtain ⟨q1, hJL, hout⟩ := q
  cases q1
  refine ev_pc (pc' := 437) rfl ?_
  refine ev_istore (L' := [_, _, _, _, _, _, _, _, _]) dL_law_437 (Nat.le_of_ble_eq_true rfl) rfl ?_
  refine ev_aload_n dL_law_439 rfl rfl ?_
  refine ev_aload_n dL_law_440 rfl rfl ?_
  refine ev_iload dL_law_441 rfl ?_
  refine ev_iconst (nI 1) dL_law_443 rfl ?_
  refine ev_iaddN dL_law_444 ?_
  refine ev_ialoadRN dL_law_445 hsc (by omega) (by omega) ?_
  refine ev_aload_n dL_law_446 rfl rfl ?_
  refine ev_iload dL_law_447 rfl ?_
  refine ev_iconst (nI 2) dL_law_449 rfl ?_
  refine ev_iaddN dL_law_450 ?_
  refine ev_ialoadRN dL_law_451 hsc (by omega) (by omega) ?_
  refine ev_callV (as := [.int _, .int _]) dL_law_452 cal_X7_rotate lk_8_99 ⟨(Nat.le_of_ble_eq_true rfl), (Nat.le_of_ble_eq_true rfl)⟩ rfl ((hJL.2.2 270 (by decide) (by decide)).trans m270) rfl (Nat.le_of_ble_eq_true rfl) (hmod h1 hJL) (by omega) (by omega) (fun v h2 q => ?_) (fun k1 h2 q => by obtain ⟨v, e, -⟩ := q; cases e)
  obtain ⟨v2, e2, ⟨b, rfl, hb⟩, hMd, o2⟩ := q
  cases e2
  obtain ⟨gz2, gc2, gs2, gh2, gk2, gl2, gb2, gx2, ⟨_, _, _, _, _, _, _, _, _, _, _, _, hm2⟩, -⟩ := id hMd
  obtain ⟨g1, hg1⟩ := hJL.2.1
  have hJ2 : JA h2 A' := ⟨hJL.1.go o2 (by decide), hI', ⟨k, hMd⟩, ⟨g1, (o2 283 (by decide)).trans hg1⟩⟩
  refine ev_pc (pc' := 455) rfl ?_
  refine ev_istore (L' := [_, _, _, _, _, _, _, _, _]) dL_law_455 (Nat.le_of_ble_eq_true rfl) rfl ?_
  refine ev_aload_n dL_law_457 rfl rfl ?_
  refine ev_callV (as := []) dL_law_458 cal_X7_thrown lk_8_83 ⟨(Nat.le_of_ble_eq_true rfl), (Nat.le_of_ble_eq_true rfl)⟩ rfl hm2.1 rfl (Nat.le_of_ble_eq_true rfl) (k_thrown hm2) (by omega) (by omega) (fun v h3 q => ?_) (fun k1 h3 q => by cases q.1)
  obtain ⟨q1, rfl⟩ := q
  cases q1
  refine ev_pc (pc' := 461) rfl ?_
  refine ev_iload dL_law_461 rfl ?_
  refine ev_icmp_eqN 468 dL_law_463 rfl (by omega) (by omega) (fun _ => ?_) (fun z => absurd rfl z)
  refine ev_iload dL_law_468 rfl ?_
  refine ev_if_neN 485 dL_law_470 rfl (by omega) (fun hk0 => ?_) (fun hk0 => ?_)
  · refine ev_goto 1455 dL_law_485 rfl ?_
    refine ev_fgt 5 (L' := [_, _, _, _, _, _, _, _, _]) rfl ?_
    refine ev_fgt 6 (L' := [_, _, _, _, _, _, _, _, _]) rfl ?_
    exact KK _ A' hJ2
  · obtain ⟨g, hg, hgx⟩ := hout hk0
    have hg2 : _ = some (aL 1 g) := (o2 283 (by decide)).trans hg
    have hbx := hb hk0
    refine ev_aload_n dL_law_473 rfl rfl ?_
    refine ev_iconst (nI 0) dL_law_474 rfl ?_
    refine ev_laloadN dL_law_475 hg2 (by decide) (by decide) ?_
    refine ev_iload dL_law_476 rfl ?_
    refine ev_i2l dL_law_478 ?_
    refine ev_lcmp_eq 485 dL_law_479 dL_law_480 rfl (fun _ => ?_) (fun z => absurd (by rw [hgx, hbx]) z)
    refine ev_goto 1455 dL_law_485 rfl ?_
    refine ev_fgt 5 (L' := [_, _, _, _, _, _, _, _, _]) rfl ?_
    refine ev_fgt 6 (L' := [_, _, _, _, _, _, _, _, _]) rfl ?_
    exact KK _ A' hJ2
set_option maxHeartbeats 4000000 in
set_option maxRecDepth 100000 in
theorem cl_drop {X : mX} (hR : RO X) {h : mH} {A : mAs} (J : JA h A) {L : Nat} {xs : Nat → Int32} (hsc : xro X (1000000 + 3) = some (L, xs)) {i : Nat} (hi : i + 3 < L) (hL : L ≤ 2048) {ce sl : Nat} (hce : ce + 1 ≤ 601024) (hsl : sl + 6 ≤ 7293033) {Q : mO → mH → Prop} (KK : ∀ h2 A', JA h2 A' → Ev X m_L_law (none, none, ce + 1, sl + 6, 601024, 7293033) 1455 [.ref (1000000 + 3), .ref 0, .ref 270, .ref 283, .int (nI i), jk, jk, jk, jk] [] h2 Q) : Ev X m_L_law (none, none, ce, sl, 601024, 7293033) 488 [.ref (1000000 + 3), .ref 0, .ref 270, .ref 283, .int (nI i), jk, jk, jk, jk] [] h Q := by
  obtain ⟨hA, hI, ⟨k0, gz, gc, gs, gh, gk, gl, gb, gx, ⟨gr, gm, gp, gq, ge, gn, go, gu, gi, ga, gv, gw, hm⟩, -⟩, hO⟩ := id J
  have a0 := hA.1
  have m270 := hm.1
  obtain ⟨k, x, A', hI', hk, hlaw, hmod⟩ := ag_drop hR J (xs (i + 1))
  refine ev_aload_n dL_law_488 rfl rfl ?_
  refine ev_aload_n dL_law_489 rfl rfl ?_
  refine ev_iload dL_law_490 rfl ?_
  refine ev_iconst (nI 1) dL_law_492 rfl ?_
  refine ev_iaddN dL_law_493 ?_
  refine ev_ialoadRN dL_law_494 hsc (by omega) (by omega) ?_
  refine ev_aload_n dL_law_495 rfl rfl ?_
  refine ev_callH (as := [.ref 0, .int _, .ref 283]) dL_law_496 cal_L_drop lk_8_100 ⟨(Nat.le_of_ble_eq_true rfl), (Nat.le_of_ble_eq_true rfl)⟩ rfl rfl (Nat.le_of_ble_eq_true rfl) hlaw (by omega) (by omega) (fun v h1 q => ?_) (fun k1 h1 q => by cases q.1)
  obtain ⟨q1, hJL, hout⟩ := q
  cases q1
  refine ev_pc (pc' := 499) rfl ?_
  refine ev_istore (L' := [_, _, _, _, _, _, _, _, _]) dL_law_499 (Nat.le_of_ble_eq_true rfl) rfl ?_
  refine ev_aload_n dL_law_501 rfl rfl ?_
  refine ev_aload_n dL_law_502 rfl rfl ?_
  refine ev_iload dL_law_503 rfl ?_
  refine ev_iconst (nI 1) dL_law_505 rfl ?_
  refine ev_iaddN dL_law_506 ?_
  refine ev_ialoadRN dL_law_507 hsc (by omega) (by omega) ?_
  refine ev_callV (as := [.int _]) dL_law_508 cal_X7_drop lk_8_102 ⟨(Nat.le_of_ble_eq_true rfl), (Nat.le_of_ble_eq_true rfl)⟩ rfl ((hJL.2.2 270 (by decide) (by decide)).trans m270) rfl (Nat.le_of_ble_eq_true rfl) (hmod h1 hJL) (by omega) (by omega) (fun v h2 q => ?_) (fun k1 h2 q => by obtain ⟨v, e, -⟩ := q; cases e)
  obtain ⟨v2, e2, ⟨b, rfl, hb⟩, hMd, o2⟩ := q
  cases e2
  obtain ⟨gz2, gc2, gs2, gh2, gk2, gl2, gb2, gx2, ⟨_, _, _, _, _, _, _, _, _, _, _, _, hm2⟩, -⟩ := id hMd
  obtain ⟨g1, hg1⟩ := hJL.2.1
  have hJ2 : JA h2 A' := ⟨hJL.1.go o2 (by decide), hI', ⟨k, hMd⟩, ⟨g1, (o2 283 (by decide)).trans hg1⟩⟩
  refine ev_pc (pc' := 511) rfl ?_
  refine ev_istore (L' := [_, _, _, _, _, _, _, _, _]) dL_law_511 (Nat.le_of_ble_eq_true rfl) rfl ?_
  refine ev_aload_n dL_law_513 rfl rfl ?_
  refine ev_callV (as := []) dL_law_514 cal_X7_thrown lk_8_83 ⟨(Nat.le_of_ble_eq_true rfl), (Nat.le_of_ble_eq_true rfl)⟩ rfl hm2.1 rfl (Nat.le_of_ble_eq_true rfl) (k_thrown hm2) (by omega) (by omega) (fun v h3 q => ?_) (fun k1 h3 q => by cases q.1)
  obtain ⟨q1, rfl⟩ := q
  cases q1
  refine ev_pc (pc' := 517) rfl ?_
  refine ev_iload dL_law_517 rfl ?_
  refine ev_icmp_eqN 524 dL_law_519 rfl (by omega) (by omega) (fun _ => ?_) (fun z => absurd rfl z)
  refine ev_iload dL_law_524 rfl ?_
  refine ev_if_neN 541 dL_law_526 rfl (by omega) (fun hk0 => ?_) (fun hk0 => ?_)
  · refine ev_goto 1455 dL_law_541 rfl ?_
    refine ev_fgt 5 (L' := [_, _, _, _, _, _, _, _, _]) rfl ?_
    refine ev_fgt 6 (L' := [_, _, _, _, _, _, _, _, _]) rfl ?_
    exact KK _ A' hJ2
  · obtain ⟨g, hg, hgx⟩ := hout hk0
    have hg2 : _ = some (aL 1 g) := (o2 283 (by decide)).trans hg
    have hbx := hb hk0
    refine ev_aload_n dL_law_529 rfl rfl ?_
    refine ev_iconst (nI 0) dL_law_530 rfl ?_
    refine ev_laloadN dL_law_531 hg2 (by decide) (by decide) ?_
    refine ev_iload dL_law_532 rfl ?_
    refine ev_i2l dL_law_534 ?_
    refine ev_lcmp_eq 541 dL_law_535 dL_law_536 rfl (fun _ => ?_) (fun z => absurd (by rw [hgx, hbx]) z)
    refine ev_goto 1455 dL_law_541 rfl ?_
    refine ev_fgt 5 (L' := [_, _, _, _, _, _, _, _, _]) rfl ?_
    refine ev_fgt 6 (L' := [_, _, _, _, _, _, _, _, _]) rfl ?_
    exact KK _ A' hJ2
set_option maxHeartbeats 4000000 in
set_option maxRecDepth 100000 in
theorem cl_set {X : mX} (hR : RO X) {h : mH} {A : mAs} (J : JA h A) {L : Nat} {xs : Nat → Int32} (hsc : xro X (1000000 + 3) = some (L, xs)) {i : Nat} (hi : i + 3 < L) (hL : L ≤ 2048) {ce sl : Nat} (hce : ce + 1 ≤ 601024) (hsl : sl + 6 ≤ 7293033) {Q : mO → mH → Prop} (KK : ∀ h2 A', JA h2 A' → Ev X m_L_law (none, none, ce + 1, sl + 6, 601024, 7293033) 1455 [.ref (1000000 + 3), .ref 0, .ref 270, .ref 283, .int (nI i), jk, jk, jk, jk] [] h2 Q) : Ev X m_L_law (none, none, ce, sl, 601024, 7293033) 557 [.ref (1000000 + 3), .ref 0, .ref 270, .ref 283, .int (nI i), jk, jk, jk, jk] [] h Q := by
  obtain ⟨hA, hI, ⟨k0, gz, gc, gs, gh, gk, gl, gb, gx, ⟨gr, gm, gp, gq, ge, gn, go, gu, gi, ga, gv, gw, hm⟩, -⟩, hO⟩ := id J
  have a0 := hA.1
  have m270 := hm.1
  obtain ⟨k, x, A', hI', hk, hlaw, hmod⟩ := ag_set hR J (xs (i + 1)) (xs (i + 2))
  refine ev_aload_n dL_law_557 rfl rfl ?_
  refine ev_aload_n dL_law_558 rfl rfl ?_
  refine ev_iload dL_law_559 rfl ?_
  refine ev_iconst (nI 1) dL_law_561 rfl ?_
  refine ev_iaddN dL_law_562 ?_
  refine ev_ialoadRN dL_law_563 hsc (by omega) (by omega) ?_
  refine ev_aload_n dL_law_564 rfl rfl ?_
  refine ev_iload dL_law_565 rfl ?_
  refine ev_iconst (nI 2) dL_law_567 rfl ?_
  refine ev_iaddN dL_law_568 ?_
  refine ev_ialoadRN dL_law_569 hsc (by omega) (by omega) ?_
  refine ev_aload_n dL_law_570 rfl rfl ?_
  refine ev_callH (as := [.ref 0, .int _, .int _, .ref 283]) dL_law_571 cal_L_set lk_8_107 ⟨(Nat.le_of_ble_eq_true rfl), (Nat.le_of_ble_eq_true rfl)⟩ rfl rfl (Nat.le_of_ble_eq_true rfl) hlaw (by omega) (by omega) (fun v h1 q => ?_) (fun k1 h1 q => by cases q.1)
  obtain ⟨q1, hJL, hout⟩ := q
  cases q1
  refine ev_pc (pc' := 574) rfl ?_
  refine ev_istore (L' := [_, _, _, _, _, _, _, _, _]) dL_law_574 (Nat.le_of_ble_eq_true rfl) rfl ?_
  refine ev_aload_n dL_law_576 rfl rfl ?_
  refine ev_aload_n dL_law_577 rfl rfl ?_
  refine ev_iload dL_law_578 rfl ?_
  refine ev_iconst (nI 1) dL_law_580 rfl ?_
  refine ev_iaddN dL_law_581 ?_
  refine ev_ialoadRN dL_law_582 hsc (by omega) (by omega) ?_
  refine ev_aload_n dL_law_583 rfl rfl ?_
  refine ev_iload dL_law_584 rfl ?_
  refine ev_iconst (nI 2) dL_law_586 rfl ?_
  refine ev_iaddN dL_law_587 ?_
  refine ev_ialoadRN dL_law_588 hsc (by omega) (by omega) ?_
  refine ev_callV (as := [.int _, .int _]) dL_law_589 cal_X7_set lk_8_109 ⟨(Nat.le_of_ble_eq_true rfl), (Nat.le_of_ble_eq_true rfl)⟩ rfl ((hJL.2.2 270 (by decide) (by decide)).trans m270) rfl (Nat.le_of_ble_eq_true rfl) (hmod h1 hJL) (by omega) (by omega) (fun v h2 q => ?_) (fun k1 h2 q => by obtain ⟨v, e, -⟩ := q; cases e)
  obtain ⟨v2, e2, ⟨b, rfl, hb⟩, hMd, o2⟩ := q
  cases e2
  obtain ⟨gz2, gc2, gs2, gh2, gk2, gl2, gb2, gx2, ⟨_, _, _, _, _, _, _, _, _, _, _, _, hm2⟩, -⟩ := id hMd
  obtain ⟨g1, hg1⟩ := hJL.2.1
  have hJ2 : JA h2 A' := ⟨hJL.1.go o2 (by decide), hI', ⟨k, hMd⟩, ⟨g1, (o2 283 (by decide)).trans hg1⟩⟩
  refine ev_pc (pc' := 592) rfl ?_
  refine ev_istore (L' := [_, _, _, _, _, _, _, _, _]) dL_law_592 (Nat.le_of_ble_eq_true rfl) rfl ?_
  refine ev_aload_n dL_law_594 rfl rfl ?_
  refine ev_callV (as := []) dL_law_595 cal_X7_thrown lk_8_83 ⟨(Nat.le_of_ble_eq_true rfl), (Nat.le_of_ble_eq_true rfl)⟩ rfl hm2.1 rfl (Nat.le_of_ble_eq_true rfl) (k_thrown hm2) (by omega) (by omega) (fun v h3 q => ?_) (fun k1 h3 q => by cases q.1)
  obtain ⟨q1, rfl⟩ := q
  cases q1
  refine ev_pc (pc' := 598) rfl ?_
  refine ev_iload dL_law_598 rfl ?_
  refine ev_icmp_eqN 605 dL_law_600 rfl (by omega) (by omega) (fun _ => ?_) (fun z => absurd rfl z)
  refine ev_iload dL_law_605 rfl ?_
  refine ev_if_neN 622 dL_law_607 rfl (by omega) (fun hk0 => ?_) (fun hk0 => ?_)
  · refine ev_goto 1455 dL_law_622 rfl ?_
    refine ev_fgt 5 (L' := [_, _, _, _, _, _, _, _, _]) rfl ?_
    refine ev_fgt 6 (L' := [_, _, _, _, _, _, _, _, _]) rfl ?_
    exact KK _ A' hJ2
  · obtain ⟨g, hg, hgx⟩ := hout hk0
    have hg2 : _ = some (aL 1 g) := (o2 283 (by decide)).trans hg
    have hbx := hb hk0
    refine ev_aload_n dL_law_610 rfl rfl ?_
    refine ev_iconst (nI 0) dL_law_611 rfl ?_
    refine ev_laloadN dL_law_612 hg2 (by decide) (by decide) ?_
    refine ev_iload dL_law_613 rfl ?_
    refine ev_i2l dL_law_615 ?_
    refine ev_lcmp_eq 622 dL_law_616 dL_law_617 rfl (fun _ => ?_) (fun z => absurd (by rw [hgx, hbx]) z)
    refine ev_goto 1455 dL_law_622 rfl ?_
    refine ev_fgt 5 (L' := [_, _, _, _, _, _, _, _, _]) rfl ?_
    refine ev_fgt 6 (L' := [_, _, _, _, _, _, _, _, _]) rfl ?_
    exact KK _ A' hJ2
set_option maxHeartbeats 4000000 in
set_option maxRecDepth 100000 in
theorem cl_append {X : mX} (hR : RO X) {h : mH} {A : mAs} (J : JA h A) {L : Nat} {xs : Nat → Int32} (hsc : xro X (1000000 + 3) = some (L, xs)) {i : Nat} (hi : i + 3 < L) (hL : L ≤ 2048) {ce sl : Nat} (hce : ce + 1 ≤ 601024) (hsl : sl + 6 ≤ 7293033) {Q : mO → mH → Prop} (KK : ∀ h2 A', JA h2 A' → Ev X m_L_law (none, none, ce + 1, sl + 6, 601024, 7293033) 1455 [.ref (1000000 + 3), .ref 0, .ref 270, .ref 283, .int (nI i), jk, jk, jk, jk] [] h2 Q) : Ev X m_L_law (none, none, ce, sl, 601024, 7293033) 625 [.ref (1000000 + 3), .ref 0, .ref 270, .ref 283, .int (nI i), jk, jk, jk, jk] [] h Q := by
  obtain ⟨hA, hI, ⟨k0, gz, gc, gs, gh, gk, gl, gb, gx, ⟨gr, gm, gp, gq, ge, gn, go, gu, gi, ga, gv, gw, hm⟩, -⟩, hO⟩ := id J
  have a0 := hA.1
  have m270 := hm.1
  obtain ⟨k, x, A', hI', hk, hlaw, hmod⟩ := ag_append hR J (xs (i + 1))
  refine ev_aload_n dL_law_625 rfl rfl ?_
  refine ev_aload_n dL_law_626 rfl rfl ?_
  refine ev_iload dL_law_627 rfl ?_
  refine ev_iconst (nI 1) dL_law_629 rfl ?_
  refine ev_iaddN dL_law_630 ?_
  refine ev_ialoadRN dL_law_631 hsc (by omega) (by omega) ?_
  refine ev_aload_n dL_law_632 rfl rfl ?_
  refine ev_callH (as := [.ref 0, .int _, .ref 283]) dL_law_633 cal_L_append lk_8_110 ⟨(Nat.le_of_ble_eq_true rfl), (Nat.le_of_ble_eq_true rfl)⟩ rfl rfl (Nat.le_of_ble_eq_true rfl) hlaw (by omega) (by omega) (fun v h1 q => ?_) (fun k1 h1 q => by cases q.1)
  obtain ⟨q1, hJL, hout⟩ := q
  cases q1
  refine ev_pc (pc' := 636) rfl ?_
  refine ev_istore (L' := [_, _, _, _, _, _, _, _, _]) dL_law_636 (Nat.le_of_ble_eq_true rfl) rfl ?_
  refine ev_aload_n dL_law_638 rfl rfl ?_
  refine ev_aload_n dL_law_639 rfl rfl ?_
  refine ev_iload dL_law_640 rfl ?_
  refine ev_iconst (nI 1) dL_law_642 rfl ?_
  refine ev_iaddN dL_law_643 ?_
  refine ev_ialoadRN dL_law_644 hsc (by omega) (by omega) ?_
  refine ev_callV (as := [.int _]) dL_law_645 cal_X7_append lk_8_112 ⟨(Nat.le_of_ble_eq_true rfl), (Nat.le_of_ble_eq_true rfl)⟩ rfl ((hJL.2.2 270 (by decide) (by decide)).trans m270) rfl (Nat.le_of_ble_eq_true rfl) (hmod h1 hJL) (by omega) (by omega) (fun v h2 q => ?_) (fun k1 h2 q => by obtain ⟨v, e, -⟩ := q; cases e)
  obtain ⟨v2, e2, ⟨b, rfl, hb⟩, hMd, o2⟩ := q
  cases e2
  obtain ⟨gz2, gc2, gs2, gh2, gk2, gl2, gb2, gx2, ⟨_, _, _, _, _, _, _, _, _, _, _, _, hm2⟩, -⟩ := id hMd
  obtain ⟨g1, hg1⟩ := hJL.2.1
  have hJ2 : JA h2 A' := ⟨hJL.1.go o2 (by decide), hI', ⟨k, hMd⟩, ⟨g1, (o2 283 (by decide)).trans hg1⟩⟩
  refine ev_pc (pc' := 648) rfl ?_
  refine ev_istore (L' := [_, _, _, _, _, _, _, _, _]) dL_law_648 (Nat.le_of_ble_eq_true rfl) rfl ?_
  refine ev_aload_n dL_law_650 rfl rfl ?_
  refine ev_callV (as := []) dL_law_651 cal_X7_thrown lk_8_83 ⟨(Nat.le_of_ble_eq_true rfl), (Nat.le_of_ble_eq_true rfl)⟩ rfl hm2.1 rfl (Nat.le_of_ble_eq_true rfl) (k_thrown hm2) (by omega) (by omega) (fun v h3 q => ?_) (fun k1 h3 q => by cases q.1)
  obtain ⟨q1, rfl⟩ := q
  cases q1
  refine ev_pc (pc' := 654) rfl ?_
  refine ev_iload dL_law_654 rfl ?_
  refine ev_icmp_eqN 661 dL_law_656 rfl (by omega) (by omega) (fun _ => ?_) (fun z => absurd rfl z)
  refine ev_iload dL_law_661 rfl ?_
  refine ev_if_neN 678 dL_law_663 rfl (by omega) (fun hk0 => ?_) (fun hk0 => ?_)
  · refine ev_goto 1455 dL_law_678 rfl ?_
    refine ev_fgt 5 (L' := [_, _, _, _, _, _, _, _, _]) rfl ?_
    refine ev_fgt 6 (L' := [_, _, _, _, _, _, _, _, _]) rfl ?_
    exact KK _ A' hJ2
  · obtain ⟨g, hg, hgx⟩ := hout hk0
    have hg2 : _ = some (aL 1 g) := (o2 283 (by decide)).trans hg
    have hbx := hb hk0
    refine ev_aload_n dL_law_666 rfl rfl ?_
    refine ev_iconst (nI 0) dL_law_667 rfl ?_
    refine ev_laloadN dL_law_668 hg2 (by decide) (by decide) ?_
    refine ev_iload dL_law_669 rfl ?_
    refine ev_i2l dL_law_671 ?_
    refine ev_lcmp_eq 678 dL_law_672 dL_law_673 rfl (fun _ => ?_) (fun z => absurd (by rw [hgx, hbx]) z)
    refine ev_goto 1455 dL_law_678 rfl ?_
    refine ev_fgt 5 (L' := [_, _, _, _, _, _, _, _, _]) rfl ?_
    refine ev_fgt 6 (L' := [_, _, _, _, _, _, _, _, _]) rfl ?_
    exact KK _ A' hJ2
set_option maxHeartbeats 4000000 in
set_option maxRecDepth 100000 in
theorem cl_undo {X : mX} (hR : RO X) {h : mH} {A : mAs} (J : JA h A) {L : Nat} {xs : Nat → Int32} (hsc : xro X (1000000 + 3) = some (L, xs)) {i : Nat} (hi : i + 3 < L) (hL : L ≤ 2048) {ce sl : Nat} (hce : ce + 1 ≤ 601024) (hsl : sl + 6 ≤ 7293033) {Q : mO → mH → Prop} (KK : ∀ h2 A', JA h2 A' → Ev X m_L_law (none, none, ce + 1, sl + 6, 601024, 7293033) 1455 [.ref (1000000 + 3), .ref 0, .ref 270, .ref 283, .int (nI i), jk, jk, jk, jk] [] h2 Q) : Ev X m_L_law (none, none, ce, sl, 601024, 7293033) 707 [.ref (1000000 + 3), .ref 0, .ref 270, .ref 283, .int (nI i), jk, jk, jk, jk] [] h Q := by
  obtain ⟨hA, hI, ⟨k0, gz, gc, gs, gh, gk, gl, gb, gx, ⟨gr, gm, gp, gq, ge, gn, go, gu, gi, ga, gv, gw, hm⟩, -⟩, hO⟩ := id J
  have a0 := hA.1
  have m270 := hm.1
  obtain ⟨k, x, A', hI', hk, hlaw, hmod⟩ := ag_undo hR J 
  refine ev_aload_n dL_law_707 rfl rfl ?_
  refine ev_aload_n dL_law_708 rfl rfl ?_
  refine ev_callH (as := [.ref 0, .ref 283]) dL_law_709 cal_L_undo lk_8_121 ⟨(Nat.le_of_ble_eq_true rfl), (Nat.le_of_ble_eq_true rfl)⟩ rfl rfl (Nat.le_of_ble_eq_true rfl) hlaw (by omega) (by omega) (fun v h1 q => ?_) (fun k1 h1 q => by cases q.1)
  obtain ⟨q1, hJL, hout⟩ := q
  cases q1
  refine ev_pc (pc' := 712) rfl ?_
  refine ev_istore (L' := [_, _, _, _, _, _, _, _, _]) dL_law_712 (Nat.le_of_ble_eq_true rfl) rfl ?_
  refine ev_aload_n dL_law_714 rfl rfl ?_
  refine ev_callV (as := []) dL_law_715 cal_X7_undo lk_8_124 ⟨(Nat.le_of_ble_eq_true rfl), (Nat.le_of_ble_eq_true rfl)⟩ rfl ((hJL.2.2 270 (by decide) (by decide)).trans m270) rfl (Nat.le_of_ble_eq_true rfl) (hmod h1 hJL) (by omega) (by omega) (fun v h2 q => ?_) (fun k1 h2 q => by obtain ⟨v, e, -⟩ := q; cases e)
  obtain ⟨v2, e2, ⟨b, rfl, hb⟩, hMd, o2⟩ := q
  cases e2
  obtain ⟨gz2, gc2, gs2, gh2, gk2, gl2, gb2, gx2, ⟨_, _, _, _, _, _, _, _, _, _, _, _, hm2⟩, -⟩ := id hMd
  obtain ⟨g1, hg1⟩ := hJL.2.1
  have hJ2 : JA h2 A' := ⟨hJL.1.go o2 (by decide), hI', ⟨k, hMd⟩, ⟨g1, (o2 283 (by decide)).trans hg1⟩⟩
  refine ev_pc (pc' := 718) rfl ?_
  refine ev_istore (L' := [_, _, _, _, _, _, _, _, _]) dL_law_718 (Nat.le_of_ble_eq_true rfl) rfl ?_
  refine ev_aload_n dL_law_720 rfl rfl ?_
  refine ev_callV (as := []) dL_law_721 cal_X7_thrown lk_8_83 ⟨(Nat.le_of_ble_eq_true rfl), (Nat.le_of_ble_eq_true rfl)⟩ rfl hm2.1 rfl (Nat.le_of_ble_eq_true rfl) (k_thrown hm2) (by omega) (by omega) (fun v h3 q => ?_) (fun k1 h3 q => by cases q.1)
  obtain ⟨q1, rfl⟩ := q
  cases q1
  refine ev_pc (pc' := 724) rfl ?_
  refine ev_iload dL_law_724 rfl ?_
  refine ev_icmp_eqN 731 dL_law_726 rfl (by omega) (by omega) (fun _ => ?_) (fun z => absurd rfl z)
  refine ev_iload dL_law_731 rfl ?_
  refine ev_if_neN 748 dL_law_733 rfl (by omega) (fun hk0 => ?_) (fun hk0 => ?_)
  · refine ev_goto 1455 dL_law_748 rfl ?_
    refine ev_fgt 5 (L' := [_, _, _, _, _, _, _, _, _]) rfl ?_
    refine ev_fgt 6 (L' := [_, _, _, _, _, _, _, _, _]) rfl ?_
    exact KK _ A' hJ2
  · obtain ⟨g, hg, hgx⟩ := hout hk0
    have hg2 : _ = some (aL 1 g) := (o2 283 (by decide)).trans hg
    have hbx := hb hk0
    refine ev_aload_n dL_law_736 rfl rfl ?_
    refine ev_iconst (nI 0) dL_law_737 rfl ?_
    refine ev_laloadN dL_law_738 hg2 (by decide) (by decide) ?_
    refine ev_iload dL_law_739 rfl ?_
    refine ev_i2l dL_law_741 ?_
    refine ev_lcmp_eq 748 dL_law_742 dL_law_743 rfl (fun _ => ?_) (fun z => absurd (by rw [hgx, hbx]) z)
    refine ev_goto 1455 dL_law_748 rfl ?_
    refine ev_fgt 5 (L' := [_, _, _, _, _, _, _, _, _]) rfl ?_
    refine ev_fgt 6 (L' := [_, _, _, _, _, _, _, _, _]) rfl ?_
    exact KK _ A' hJ2
set_option maxHeartbeats 4000000 in
set_option maxRecDepth 100000 in
theorem cl_sign {X : mX} (hR : RO X) {h : mH} {A : mAs} (J : JA h A) {L : Nat} {xs : Nat → Int32} (hsc : xro X (1000000 + 3) = some (L, xs)) {i : Nat} (hi : i + 3 < L) (hL : L ≤ 2048) {ce sl : Nat} (hce : ce + 1 ≤ 601024) (hsl : sl + 6 ≤ 7293033) {Q : mO → mH → Prop} (KK : ∀ h2 A', JA h2 A' → Ev X m_L_law (none, none, ce + 1, sl + 6, 601024, 7293033) 1455 [.ref (1000000 + 3), .ref 0, .ref 270, .ref 283, .int (nI i), jk, jk, jk, jk] [] h2 Q) : Ev X m_L_law (none, none, ce, sl, 601024, 7293033) 751 [.ref (1000000 + 3), .ref 0, .ref 270, .ref 283, .int (nI i), jk, jk, jk, jk] [] h Q := by
  obtain ⟨hA, hI, ⟨k0, gz, gc, gs, gh, gk, gl, gb, gx, ⟨gr, gm, gp, gq, ge, gn, go, gu, gi, ga, gv, gw, hm⟩, -⟩, hO⟩ := id J
  have a0 := hA.1
  have m270 := hm.1
  obtain ⟨k, x, A', hI', hk, hlaw, hmod⟩ := ag_sign hR J (xs (i + 1)) (xs (i + 2)) (xs (i + 3))
  refine ev_aload_n dL_law_751 rfl rfl ?_
  refine ev_aload_n dL_law_752 rfl rfl ?_
  refine ev_iload dL_law_753 rfl ?_
  refine ev_iconst (nI 1) dL_law_755 rfl ?_
  refine ev_iaddN dL_law_756 ?_
  refine ev_ialoadRN dL_law_757 hsc (by omega) (by omega) ?_
  refine ev_aload_n dL_law_758 rfl rfl ?_
  refine ev_iload dL_law_759 rfl ?_
  refine ev_iconst (nI 2) dL_law_761 rfl ?_
  refine ev_iaddN dL_law_762 ?_
  refine ev_ialoadRN dL_law_763 hsc (by omega) (by omega) ?_
  refine ev_aload_n dL_law_764 rfl rfl ?_
  refine ev_iload dL_law_765 rfl ?_
  refine ev_iconst (nI 3) dL_law_767 rfl ?_
  refine ev_iaddN dL_law_768 ?_
  refine ev_ialoadRN dL_law_769 hsc (by omega) (by omega) ?_
  refine ev_aload_n dL_law_770 rfl rfl ?_
  refine ev_callH (as := [.ref 0, .int _, .int _, .int _, .ref 283]) dL_law_771 cal_L_sign lk_8_125 ⟨(Nat.le_of_ble_eq_true rfl), (Nat.le_of_ble_eq_true rfl)⟩ rfl rfl (Nat.le_of_ble_eq_true rfl) hlaw (by omega) (by omega) (fun v h1 q => ?_) (fun k1 h1 q => by cases q.1)
  obtain ⟨q1, hJL, hout⟩ := q
  cases q1
  refine ev_pc (pc' := 774) rfl ?_
  refine ev_istore (L' := [_, _, _, _, _, _, _, _, _]) dL_law_774 (Nat.le_of_ble_eq_true rfl) rfl ?_
  refine ev_aload_n dL_law_776 rfl rfl ?_
  refine ev_aload_n dL_law_777 rfl rfl ?_
  refine ev_iload dL_law_778 rfl ?_
  refine ev_iconst (nI 1) dL_law_780 rfl ?_
  refine ev_iaddN dL_law_781 ?_
  refine ev_ialoadRN dL_law_782 hsc (by omega) (by omega) ?_
  refine ev_aload_n dL_law_783 rfl rfl ?_
  refine ev_iload dL_law_784 rfl ?_
  refine ev_iconst (nI 2) dL_law_786 rfl ?_
  refine ev_iaddN dL_law_787 ?_
  refine ev_ialoadRN dL_law_788 hsc (by omega) (by omega) ?_
  refine ev_aload_n dL_law_789 rfl rfl ?_
  refine ev_iload dL_law_790 rfl ?_
  refine ev_iconst (nI 3) dL_law_792 rfl ?_
  refine ev_iaddN dL_law_793 ?_
  refine ev_ialoadRN dL_law_794 hsc (by omega) (by omega) ?_
  refine ev_callV (as := [.int _, .int _, .int _]) dL_law_795 cal_X7_sign lk_8_127 ⟨(Nat.le_of_ble_eq_true rfl), (Nat.le_of_ble_eq_true rfl)⟩ rfl ((hJL.2.2 270 (by decide) (by decide)).trans m270) rfl (Nat.le_of_ble_eq_true rfl) (hmod h1 hJL) (by omega) (by omega) (fun v h2 q => ?_) (fun k1 h2 q => by obtain ⟨v, e, -⟩ := q; cases e)
  obtain ⟨v2, e2, ⟨b, rfl, hb⟩, hMd, o2⟩ := q
  cases e2
  obtain ⟨gz2, gc2, gs2, gh2, gk2, gl2, gb2, gx2, ⟨_, _, _, _, _, _, _, _, _, _, _, _, hm2⟩, -⟩ := id hMd
  obtain ⟨g1, hg1⟩ := hJL.2.1
  have hJ2 : JA h2 A' := ⟨hJL.1.go o2 (by decide), hI', ⟨k, hMd⟩, ⟨g1, (o2 283 (by decide)).trans hg1⟩⟩
  refine ev_pc (pc' := 798) rfl ?_
  refine ev_istore (L' := [_, _, _, _, _, _, _, _, _]) dL_law_798 (Nat.le_of_ble_eq_true rfl) rfl ?_
  refine ev_aload_n dL_law_800 rfl rfl ?_
  refine ev_callV (as := []) dL_law_801 cal_X7_thrown lk_8_83 ⟨(Nat.le_of_ble_eq_true rfl), (Nat.le_of_ble_eq_true rfl)⟩ rfl hm2.1 rfl (Nat.le_of_ble_eq_true rfl) (k_thrown hm2) (by omega) (by omega) (fun v h3 q => ?_) (fun k1 h3 q => by cases q.1)
  obtain ⟨q1, rfl⟩ := q
  cases q1
  refine ev_pc (pc' := 804) rfl ?_
  refine ev_iload dL_law_804 rfl ?_
  refine ev_icmp_eqN 811 dL_law_806 rfl (by omega) (by omega) (fun _ => ?_) (fun z => absurd rfl z)
  refine ev_iload dL_law_811 rfl ?_
  refine ev_if_neN 828 dL_law_813 rfl (by omega) (fun hk0 => ?_) (fun hk0 => ?_)
  · refine ev_goto 1455 dL_law_828 rfl ?_
    refine ev_fgt 5 (L' := [_, _, _, _, _, _, _, _, _]) rfl ?_
    refine ev_fgt 6 (L' := [_, _, _, _, _, _, _, _, _]) rfl ?_
    exact KK _ A' hJ2
  · obtain ⟨g, hg, hgx⟩ := hout hk0
    have hg2 : _ = some (aL 1 g) := (o2 283 (by decide)).trans hg
    have hbx := hb hk0
    refine ev_aload_n dL_law_816 rfl rfl ?_
    refine ev_iconst (nI 0) dL_law_817 rfl ?_
    refine ev_laloadN dL_law_818 hg2 (by decide) (by decide) ?_
    refine ev_iload dL_law_819 rfl ?_
    refine ev_i2l dL_law_821 ?_
    refine ev_lcmp_eq 828 dL_law_822 dL_law_823 rfl (fun _ => ?_) (fun z => absurd (by rw [hgx, hbx]) z)
    refine ev_goto 1455 dL_law_828 rfl ?_
    refine ev_fgt 5 (L' := [_, _, _, _, _, _, _, _, _]) rfl ?_
    refine ev_fgt 6 (L' := [_, _, _, _, _, _, _, _, _]) rfl ?_
    exact KK _ A' hJ2
set_option maxHeartbeats 4000000 in
set_option maxRecDepth 100000 in
theorem cl_piece {X : mX} (hR : RO X) {h : mH} {A : mAs} (J : JA h A) {L : Nat} {xs : Nat → Int32} (hsc : xro X (1000000 + 3) = some (L, xs)) {i : Nat} (hi : i + 3 < L) (hL : L ≤ 2048) {ce sl : Nat} (hce : ce + 1 ≤ 601024) (hsl : sl + 6 ≤ 7293033) {Q : mO → mH → Prop} (KK : ∀ h2 A', JA h2 A' → Ev X m_L_law (none, none, ce + 1, sl + 6, 601024, 7293033) 1455 [.ref (1000000 + 3), .ref 0, .ref 270, .ref 283, .int (nI i), jk, jk, jk, jk] [] h2 Q) : Ev X m_L_law (none, none, ce, sl, 601024, 7293033) 831 [.ref (1000000 + 3), .ref 0, .ref 270, .ref 283, .int (nI i), jk, jk, jk, jk] [] h Q := by
  obtain ⟨hA, hI, ⟨k0, gz, gc, gs, gh, gk, gl, gb, gx, ⟨gr, gm, gp, gq, ge, gn, go, gu, gi, ga, gv, gw, hm⟩, -⟩, hO⟩ := id J
  have a0 := hA.1
  have m270 := hm.1
  obtain ⟨k, x, A', hI', hk, hlaw, hmod⟩ := ag_piece hR J (xs (i + 1)) (xs (i + 2)) (xs (i + 3))
  refine ev_aload_n dL_law_831 rfl rfl ?_
  refine ev_aload_n dL_law_832 rfl rfl ?_
  refine ev_iload dL_law_833 rfl ?_
  refine ev_iconst (nI 1) dL_law_835 rfl ?_
  refine ev_iaddN dL_law_836 ?_
  refine ev_ialoadRN dL_law_837 hsc (by omega) (by omega) ?_
  refine ev_aload_n dL_law_838 rfl rfl ?_
  refine ev_iload dL_law_839 rfl ?_
  refine ev_iconst (nI 2) dL_law_841 rfl ?_
  refine ev_iaddN dL_law_842 ?_
  refine ev_ialoadRN dL_law_843 hsc (by omega) (by omega) ?_
  refine ev_aload_n dL_law_844 rfl rfl ?_
  refine ev_iload dL_law_845 rfl ?_
  refine ev_iconst (nI 3) dL_law_847 rfl ?_
  refine ev_iaddN dL_law_848 ?_
  refine ev_ialoadRN dL_law_849 hsc (by omega) (by omega) ?_
  refine ev_aload_n dL_law_850 rfl rfl ?_
  refine ev_callH (as := [.ref 0, .int _, .int _, .int _, .ref 283]) dL_law_851 cal_L_piece lk_8_128 ⟨(Nat.le_of_ble_eq_true rfl), (Nat.le_of_ble_eq_true rfl)⟩ rfl rfl (Nat.le_of_ble_eq_true rfl) hlaw (by omega) (by omega) (fun v h1 q => ?_) (fun k1 h1 q => by cases q.1)
  obtain ⟨q1, hJL, hout⟩ := q
  cases q1
  refine ev_pc (pc' := 854) rfl ?_
  refine ev_istore (L' := [_, _, _, _, _, _, _, _, _]) dL_law_854 (Nat.le_of_ble_eq_true rfl) rfl ?_
  refine ev_aload_n dL_law_856 rfl rfl ?_
  refine ev_aload_n dL_law_857 rfl rfl ?_
  refine ev_iload dL_law_858 rfl ?_
  refine ev_iconst (nI 1) dL_law_860 rfl ?_
  refine ev_iaddN dL_law_861 ?_
  refine ev_ialoadRN dL_law_862 hsc (by omega) (by omega) ?_
  refine ev_aload_n dL_law_863 rfl rfl ?_
  refine ev_iload dL_law_864 rfl ?_
  refine ev_iconst (nI 2) dL_law_866 rfl ?_
  refine ev_iaddN dL_law_867 ?_
  refine ev_ialoadRN dL_law_868 hsc (by omega) (by omega) ?_
  refine ev_aload_n dL_law_869 rfl rfl ?_
  refine ev_iload dL_law_870 rfl ?_
  refine ev_iconst (nI 3) dL_law_872 rfl ?_
  refine ev_iaddN dL_law_873 ?_
  refine ev_ialoadRN dL_law_874 hsc (by omega) (by omega) ?_
  refine ev_callV (as := [.int _, .int _, .int _]) dL_law_875 cal_X7_piece lk_8_130 ⟨(Nat.le_of_ble_eq_true rfl), (Nat.le_of_ble_eq_true rfl)⟩ rfl ((hJL.2.2 270 (by decide) (by decide)).trans m270) rfl (Nat.le_of_ble_eq_true rfl) (hmod h1 hJL) (by omega) (by omega) (fun v h2 q => ?_) (fun k1 h2 q => by obtain ⟨v, e, -⟩ := q; cases e)
  obtain ⟨v2, e2, ⟨b, rfl, hb⟩, hMd, o2⟩ := q
  cases e2
  obtain ⟨gz2, gc2, gs2, gh2, gk2, gl2, gb2, gx2, ⟨_, _, _, _, _, _, _, _, _, _, _, _, hm2⟩, -⟩ := id hMd
  obtain ⟨g1, hg1⟩ := hJL.2.1
  have hJ2 : JA h2 A' := ⟨hJL.1.go o2 (by decide), hI', ⟨k, hMd⟩, ⟨g1, (o2 283 (by decide)).trans hg1⟩⟩
  refine ev_pc (pc' := 878) rfl ?_
  refine ev_istore (L' := [_, _, _, _, _, _, _, _, _]) dL_law_878 (Nat.le_of_ble_eq_true rfl) rfl ?_
  refine ev_aload_n dL_law_880 rfl rfl ?_
  refine ev_callV (as := []) dL_law_881 cal_X7_thrown lk_8_83 ⟨(Nat.le_of_ble_eq_true rfl), (Nat.le_of_ble_eq_true rfl)⟩ rfl hm2.1 rfl (Nat.le_of_ble_eq_true rfl) (k_thrown hm2) (by omega) (by omega) (fun v h3 q => ?_) (fun k1 h3 q => by cases q.1)
  obtain ⟨q1, rfl⟩ := q
  cases q1
  refine ev_pc (pc' := 884) rfl ?_
  refine ev_iload dL_law_884 rfl ?_
  refine ev_icmp_eqN 891 dL_law_886 rfl (by omega) (by omega) (fun _ => ?_) (fun z => absurd rfl z)
  refine ev_iload dL_law_891 rfl ?_
  refine ev_if_neN 908 dL_law_893 rfl (by omega) (fun hk0 => ?_) (fun hk0 => ?_)
  · refine ev_goto 1455 dL_law_908 rfl ?_
    refine ev_fgt 5 (L' := [_, _, _, _, _, _, _, _, _]) rfl ?_
    refine ev_fgt 6 (L' := [_, _, _, _, _, _, _, _, _]) rfl ?_
    exact KK _ A' hJ2
  · obtain ⟨g, hg, hgx⟩ := hout hk0
    have hg2 : _ = some (aL 1 g) := (o2 283 (by decide)).trans hg
    have hbx := hb hk0
    refine ev_aload_n dL_law_896 rfl rfl ?_
    refine ev_iconst (nI 0) dL_law_897 rfl ?_
    refine ev_laloadN dL_law_898 hg2 (by decide) (by decide) ?_
    refine ev_iload dL_law_899 rfl ?_
    refine ev_i2l dL_law_901 ?_
    refine ev_lcmp_eq 908 dL_law_902 dL_law_903 rfl (fun _ => ?_) (fun z => absurd (by rw [hgx, hbx]) z)
    refine ev_goto 1455 dL_law_908 rfl ?_
    refine ev_fgt 5 (L' := [_, _, _, _, _, _, _, _, _]) rfl ?_
    refine ev_fgt 6 (L' := [_, _, _, _, _, _, _, _, _]) rfl ?_
    exact KK _ A' hJ2
set_option maxHeartbeats 4000000 in
set_option maxRecDepth 100000 in
theorem cl_slot {X : mX} (hR : RO X) {h : mH} {A : mAs} (J : JA h A) {L : Nat} {xs : Nat → Int32} (hsc : xro X (1000000 + 3) = some (L, xs)) {i : Nat} (hi : i + 3 < L) (hL : L ≤ 2048) {ce sl : Nat} (hce : ce + 1 ≤ 601024) (hsl : sl + 6 ≤ 7293033) {Q : mO → mH → Prop} (KK : ∀ h2 A', JA h2 A' → Ev X m_L_law (none, none, ce + 1, sl + 6, 601024, 7293033) 1455 [.ref (1000000 + 3), .ref 0, .ref 270, .ref 283, .int (nI i), jk, jk, jk, jk] [] h2 Q) : Ev X m_L_law (none, none, ce, sl, 601024, 7293033) 911 [.ref (1000000 + 3), .ref 0, .ref 270, .ref 283, .int (nI i), jk, jk, jk, jk] [] h Q := by
  obtain ⟨hA, hI, ⟨k0, gz, gc, gs, gh, gk, gl, gb, gx, ⟨gr, gm, gp, gq, ge, gn, go, gu, gi, ga, gv, gw, hm⟩, -⟩, hO⟩ := id J
  have a0 := hA.1
  have m270 := hm.1
  obtain ⟨k, x, A', hI', hk, hlaw, hmod⟩ := ag_slot hR J (xs (i + 1)) (xs (i + 2))
  refine ev_aload_n dL_law_911 rfl rfl ?_
  refine ev_aload_n dL_law_912 rfl rfl ?_
  refine ev_iload dL_law_913 rfl ?_
  refine ev_iconst (nI 1) dL_law_915 rfl ?_
  refine ev_iaddN dL_law_916 ?_
  refine ev_ialoadRN dL_law_917 hsc (by omega) (by omega) ?_
  refine ev_aload_n dL_law_918 rfl rfl ?_
  refine ev_iload dL_law_919 rfl ?_
  refine ev_iconst (nI 2) dL_law_921 rfl ?_
  refine ev_iaddN dL_law_922 ?_
  refine ev_ialoadRN dL_law_923 hsc (by omega) (by omega) ?_
  refine ev_aload_n dL_law_924 rfl rfl ?_
  refine ev_callH (as := [.ref 0, .int _, .int _, .ref 283]) dL_law_925 cal_L_slot lk_8_131 ⟨(Nat.le_of_ble_eq_true rfl), (Nat.le_of_ble_eq_true rfl)⟩ rfl rfl (Nat.le_of_ble_eq_true rfl) hlaw (by omega) (by omega) (fun v h1 q => ?_) (fun k1 h1 q => by cases q.1)
  obtain ⟨q1, hJL, hout⟩ := q
  cases q1
  refine ev_pc (pc' := 928) rfl ?_
  refine ev_istore (L' := [_, _, _, _, _, _, _, _, _]) dL_law_928 (Nat.le_of_ble_eq_true rfl) rfl ?_
  refine ev_aload_n dL_law_930 rfl rfl ?_
  refine ev_aload_n dL_law_931 rfl rfl ?_
  refine ev_iload dL_law_932 rfl ?_
  refine ev_iconst (nI 1) dL_law_934 rfl ?_
  refine ev_iaddN dL_law_935 ?_
  refine ev_ialoadRN dL_law_936 hsc (by omega) (by omega) ?_
  refine ev_aload_n dL_law_937 rfl rfl ?_
  refine ev_iload dL_law_938 rfl ?_
  refine ev_iconst (nI 2) dL_law_940 rfl ?_
  refine ev_iaddN dL_law_941 ?_
  refine ev_ialoadRN dL_law_942 hsc (by omega) (by omega) ?_
  refine ev_callV (as := [.int _, .int _]) dL_law_943 cal_X7_slot lk_8_133 ⟨(Nat.le_of_ble_eq_true rfl), (Nat.le_of_ble_eq_true rfl)⟩ rfl ((hJL.2.2 270 (by decide) (by decide)).trans m270) rfl (Nat.le_of_ble_eq_true rfl) (hmod h1 hJL) (by omega) (by omega) (fun v h2 q => ?_) (fun k1 h2 q => by obtain ⟨v, e, -⟩ := q; cases e)
  obtain ⟨v2, e2, ⟨b, rfl, hb⟩, hMd, o2⟩ := q
  cases e2
  obtain ⟨gz2, gc2, gs2, gh2, gk2, gl2, gb2, gx2, ⟨_, _, _, _, _, _, _, _, _, _, _, _, hm2⟩, -⟩ := id hMd
  obtain ⟨g1, hg1⟩ := hJL.2.1
  have hJ2 : JA h2 A' := ⟨hJL.1.go o2 (by decide), hI', ⟨k, hMd⟩, ⟨g1, (o2 283 (by decide)).trans hg1⟩⟩
  refine ev_pc (pc' := 946) rfl ?_
  refine ev_istore (L' := [_, _, _, _, _, _, _, _, _]) dL_law_946 (Nat.le_of_ble_eq_true rfl) rfl ?_
  refine ev_aload_n dL_law_948 rfl rfl ?_
  refine ev_callV (as := []) dL_law_949 cal_X7_thrown lk_8_83 ⟨(Nat.le_of_ble_eq_true rfl), (Nat.le_of_ble_eq_true rfl)⟩ rfl hm2.1 rfl (Nat.le_of_ble_eq_true rfl) (k_thrown hm2) (by omega) (by omega) (fun v h3 q => ?_) (fun k1 h3 q => by cases q.1)
  obtain ⟨q1, rfl⟩ := q
  cases q1
  refine ev_pc (pc' := 952) rfl ?_
  refine ev_iload dL_law_952 rfl ?_
  refine ev_icmp_eqN 959 dL_law_954 rfl (by omega) (by omega) (fun _ => ?_) (fun z => absurd rfl z)
  refine ev_iload dL_law_959 rfl ?_
  refine ev_if_neN 976 dL_law_961 rfl (by omega) (fun hk0 => ?_) (fun hk0 => ?_)
  · refine ev_goto 1455 dL_law_976 rfl ?_
    refine ev_fgt 5 (L' := [_, _, _, _, _, _, _, _, _]) rfl ?_
    refine ev_fgt 6 (L' := [_, _, _, _, _, _, _, _, _]) rfl ?_
    exact KK _ A' hJ2
  · obtain ⟨g, hg, hgx⟩ := hout hk0
    have hg2 : _ = some (aL 1 g) := (o2 283 (by decide)).trans hg
    have hbx := hb hk0
    refine ev_aload_n dL_law_964 rfl rfl ?_
    refine ev_iconst (nI 0) dL_law_965 rfl ?_
    refine ev_laloadN dL_law_966 hg2 (by decide) (by decide) ?_
    refine ev_iload dL_law_967 rfl ?_
    refine ev_i2l dL_law_969 ?_
    refine ev_lcmp_eq 976 dL_law_970 dL_law_971 rfl (fun _ => ?_) (fun z => absurd (by rw [hgx, hbx]) z)
    refine ev_goto 1455 dL_law_976 rfl ?_
    refine ev_fgt 5 (L' := [_, _, _, _, _, _, _, _, _]) rfl ?_
    refine ev_fgt 6 (L' := [_, _, _, _, _, _, _, _, _]) rfl ?_
    exact KK _ A' hJ2
set_option maxHeartbeats 4000000 in
set_option maxRecDepth 100000 in
theorem cl_text {X : mX} (hR : RO X) {h : mH} {A : mAs} (J : JA h A) {L : Nat} {xs : Nat → Int32} (hsc : xro X (1000000 + 3) = some (L, xs)) {i : Nat} (hi : i + 3 < L) (hL : L ≤ 2048) {ce sl : Nat} (hce : ce + 1 ≤ 601024) (hsl : sl + 6 ≤ 7293033) {Q : mO → mH → Prop} (KK : ∀ h2 A', JA h2 A' → Ev X m_L_law (none, none, ce + 1, sl + 6, 601024, 7293033) 1455 [.ref (1000000 + 3), .ref 0, .ref 270, .ref 283, .int (nI i), jk, jk, jk, jk] [] h2 Q) : Ev X m_L_law (none, none, ce, sl, 601024, 7293033) 979 [.ref (1000000 + 3), .ref 0, .ref 270, .ref 283, .int (nI i), jk, jk, jk, jk] [] h Q := by
  obtain ⟨hA, hI, ⟨k0, gz, gc, gs, gh, gk, gl, gb, gx, ⟨gr, gm, gp, gq, ge, gn, go, gu, gi, ga, gv, gw, hm⟩, -⟩, hO⟩ := id J
  have a0 := hA.1
  have m270 := hm.1
  obtain ⟨k, x, A', hI', hk, hlaw, hmod⟩ := ag_text hR J (xs (i + 1)) (xs (i + 2))
  refine ev_aload_n dL_law_979 rfl rfl ?_
  refine ev_aload_n dL_law_980 rfl rfl ?_
  refine ev_iload dL_law_981 rfl ?_
  refine ev_iconst (nI 1) dL_law_983 rfl ?_
  refine ev_iaddN dL_law_984 ?_
  refine ev_ialoadRN dL_law_985 hsc (by omega) (by omega) ?_
  refine ev_aload_n dL_law_986 rfl rfl ?_
  refine ev_iload dL_law_987 rfl ?_
  refine ev_iconst (nI 2) dL_law_989 rfl ?_
  refine ev_iaddN dL_law_990 ?_
  refine ev_ialoadRN dL_law_991 hsc (by omega) (by omega) ?_
  refine ev_aload_n dL_law_992 rfl rfl ?_
  refine ev_callH (as := [.ref 0, .int _, .int _, .ref 283]) dL_law_993 cal_L_text lk_8_134 ⟨(Nat.le_of_ble_eq_true rfl), (Nat.le_of_ble_eq_true rfl)⟩ rfl rfl (Nat.le_of_ble_eq_true rfl) hlaw (by omega) (by omega) (fun v h1 q => ?_) (fun k1 h1 q => by cases q.1)
  obtain ⟨q1, hJL, hout⟩ := q
  cases q1
  refine ev_pc (pc' := 996) rfl ?_
  refine ev_istore (L' := [_, _, _, _, _, _, _, _, _]) dL_law_996 (Nat.le_of_ble_eq_true rfl) rfl ?_
  refine ev_aload_n dL_law_998 rfl rfl ?_
  refine ev_aload_n dL_law_999 rfl rfl ?_
  refine ev_iload dL_law_1000 rfl ?_
  refine ev_iconst (nI 1) dL_law_1002 rfl ?_
  refine ev_iaddN dL_law_1003 ?_
  refine ev_ialoadRN dL_law_1004 hsc (by omega) (by omega) ?_
  refine ev_aload_n dL_law_1005 rfl rfl ?_
  refine ev_iload dL_law_1006 rfl ?_
  refine ev_iconst (nI 2) dL_law_1008 rfl ?_
  refine ev_iaddN dL_law_1009 ?_
  refine ev_ialoadRN dL_law_1010 hsc (by omega) (by omega) ?_
  refine ev_callV (as := [.int _, .int _]) dL_law_1011 cal_X7_text lk_8_136 ⟨(Nat.le_of_ble_eq_true rfl), (Nat.le_of_ble_eq_true rfl)⟩ rfl ((hJL.2.2 270 (by decide) (by decide)).trans m270) rfl (Nat.le_of_ble_eq_true rfl) (hmod h1 hJL) (by omega) (by omega) (fun v h2 q => ?_) (fun k1 h2 q => by obtain ⟨v, e, -⟩ := q; cases e)
  obtain ⟨v2, e2, ⟨b, rfl, hb⟩, hMd, o2⟩ := q
  cases e2
  obtain ⟨gz2, gc2, gs2, gh2, gk2, gl2, gb2, gx2, ⟨_, _, _, _, _, _, _, _, _, _, _, _, hm2⟩, -⟩ := id hMd
  obtain ⟨g1, hg1⟩ := hJL.2.1
  have hJ2 : JA h2 A' := ⟨hJL.1.go o2 (by decide), hI', ⟨k, hMd⟩, ⟨g1, (o2 283 (by decide)).trans hg1⟩⟩
  refine ev_pc (pc' := 1014) rfl ?_
  refine ev_istore (L' := [_, _, _, _, _, _, _, _, _]) dL_law_1014 (Nat.le_of_ble_eq_true rfl) rfl ?_
  refine ev_aload_n dL_law_1016 rfl rfl ?_
  refine ev_callV (as := []) dL_law_1017 cal_X7_thrown lk_8_83 ⟨(Nat.le_of_ble_eq_true rfl), (Nat.le_of_ble_eq_true rfl)⟩ rfl hm2.1 rfl (Nat.le_of_ble_eq_true rfl) (k_thrown hm2) (by omega) (by omega) (fun v h3 q => ?_) (fun k1 h3 q => by cases q.1)
  obtain ⟨q1, rfl⟩ := q
  cases q1
  refine ev_pc (pc' := 1020) rfl ?_
  refine ev_iload dL_law_1020 rfl ?_
  refine ev_icmp_eqN 1027 dL_law_1022 rfl (by omega) (by omega) (fun _ => ?_) (fun z => absurd rfl z)
  refine ev_iload dL_law_1027 rfl ?_
  refine ev_if_neN 1044 dL_law_1029 rfl (by omega) (fun hk0 => ?_) (fun hk0 => ?_)
  · refine ev_goto 1455 dL_law_1044 rfl ?_
    refine ev_fgt 5 (L' := [_, _, _, _, _, _, _, _, _]) rfl ?_
    refine ev_fgt 6 (L' := [_, _, _, _, _, _, _, _, _]) rfl ?_
    exact KK _ A' hJ2
  · obtain ⟨g, hg, hgx⟩ := hout hk0
    have hg2 : _ = some (aL 1 g) := (o2 283 (by decide)).trans hg
    have hbx := hb hk0
    refine ev_aload_n dL_law_1032 rfl rfl ?_
    refine ev_iconst (nI 0) dL_law_1033 rfl ?_
    refine ev_laloadN dL_law_1034 hg2 (by decide) (by decide) ?_
    refine ev_iload dL_law_1035 rfl ?_
    refine ev_i2l dL_law_1037 ?_
    refine ev_lcmp_eq 1044 dL_law_1038 dL_law_1039 rfl (fun _ => ?_) (fun z => absurd (by rw [hgx, hbx]) z)
    refine ev_goto 1455 dL_law_1044 rfl ?_
    refine ev_fgt 5 (L' := [_, _, _, _, _, _, _, _, _]) rfl ?_
    refine ev_fgt 6 (L' := [_, _, _, _, _, _, _, _, _]) rfl ?_
    exact KK _ A' hJ2
set_option maxHeartbeats 4000000 in
set_option maxRecDepth 100000 in
theorem cl_common {X : mX} (hR : RO X) {h : mH} {A : mAs} (J : JA h A) {L : Nat} {xs : Nat → Int32} (hsc : xro X (1000000 + 3) = some (L, xs)) {i : Nat} (hi : i + 3 < L) (hL : L ≤ 2048) {ce sl : Nat} (hce : ce + 1 ≤ 601024) (hsl : sl + 6 ≤ 7293033) {Q : mO → mH → Prop} (KK : ∀ h2 A', JA h2 A' → Ev X m_L_law (none, none, ce + 1, sl + 6, 601024, 7293033) 1455 [.ref (1000000 + 3), .ref 0, .ref 270, .ref 283, .int (nI i), jk, jk, jk, jk] [] h2 Q) : Ev X m_L_law (none, none, ce, sl, 601024, 7293033) 1047 [.ref (1000000 + 3), .ref 0, .ref 270, .ref 283, .int (nI i), jk, jk, jk, jk] [] h Q := by
  obtain ⟨hA, hI, ⟨k0, gz, gc, gs, gh, gk, gl, gb, gx, ⟨gr, gm, gp, gq, ge, gn, go, gu, gi, ga, gv, gw, hm⟩, -⟩, hO⟩ := id J
  have a0 := hA.1
  have m270 := hm.1
  obtain ⟨k, x, A', hI', hk, hlaw, hmod⟩ := ag_common hR J (xs (i + 1)) (xs (i + 2)) (xs (i + 3))
  refine ev_aload_n dL_law_1047 rfl rfl ?_
  refine ev_aload_n dL_law_1048 rfl rfl ?_
  refine ev_iload dL_law_1049 rfl ?_
  refine ev_iconst (nI 1) dL_law_1051 rfl ?_
  refine ev_iaddN dL_law_1052 ?_
  refine ev_ialoadRN dL_law_1053 hsc (by omega) (by omega) ?_
  refine ev_aload_n dL_law_1054 rfl rfl ?_
  refine ev_iload dL_law_1055 rfl ?_
  refine ev_iconst (nI 2) dL_law_1057 rfl ?_
  refine ev_iaddN dL_law_1058 ?_
  refine ev_ialoadRN dL_law_1059 hsc (by omega) (by omega) ?_
  refine ev_aload_n dL_law_1060 rfl rfl ?_
  refine ev_iload dL_law_1061 rfl ?_
  refine ev_iconst (nI 3) dL_law_1063 rfl ?_
  refine ev_iaddN dL_law_1064 ?_
  refine ev_ialoadRN dL_law_1065 hsc (by omega) (by omega) ?_
  refine ev_aload_n dL_law_1066 rfl rfl ?_
  refine ev_callH (as := [.ref 0, .int _, .int _, .int _, .ref 283]) dL_law_1067 cal_L_common lk_8_137 ⟨(Nat.le_of_ble_eq_true rfl), (Nat.le_of_ble_eq_true rfl)⟩ rfl rfl (Nat.le_of_ble_eq_true rfl) hlaw (by omega) (by omega) (fun v h1 q => ?_) (fun k1 h1 q => by cases q.1)
  obtain ⟨q1, hJL, hout⟩ := q
  cases q1
  refine ev_pc (pc' := 1070) rfl ?_
  refine ev_istore (L' := [_, _, _, _, _, _, _, _, _]) dL_law_1070 (Nat.le_of_ble_eq_true rfl) rfl ?_
  refine ev_aload_n dL_law_1072 rfl rfl ?_
  refine ev_aload_n dL_law_1073 rfl rfl ?_
  refine ev_iload dL_law_1074 rfl ?_
  refine ev_iconst (nI 1) dL_law_1076 rfl ?_
  refine ev_iaddN dL_law_1077 ?_
  refine ev_ialoadRN dL_law_1078 hsc (by omega) (by omega) ?_
  refine ev_aload_n dL_law_1079 rfl rfl ?_
  refine ev_iload dL_law_1080 rfl ?_
  refine ev_iconst (nI 2) dL_law_1082 rfl ?_
  refine ev_iaddN dL_law_1083 ?_
  refine ev_ialoadRN dL_law_1084 hsc (by omega) (by omega) ?_
  refine ev_aload_n dL_law_1085 rfl rfl ?_
  refine ev_iload dL_law_1086 rfl ?_
  refine ev_iconst (nI 3) dL_law_1088 rfl ?_
  refine ev_iaddN dL_law_1089 ?_
  refine ev_ialoadRN dL_law_1090 hsc (by omega) (by omega) ?_
  refine ev_callV (as := [.int _, .int _, .int _]) dL_law_1091 cal_X7_common lk_8_139 ⟨(Nat.le_of_ble_eq_true rfl), (Nat.le_of_ble_eq_true rfl)⟩ rfl ((hJL.2.2 270 (by decide) (by decide)).trans m270) rfl (Nat.le_of_ble_eq_true rfl) (hmod h1 hJL) (by omega) (by omega) (fun v h2 q => ?_) (fun k1 h2 q => by obtain ⟨v, e, -⟩ := q; cases e)
  obtain ⟨v2, e2, ⟨b, rfl, hb⟩, hMd, o2⟩ := q
  cases e2
  obtain ⟨gz2, gc2, gs2, gh2, gk2, gl2, gb2, gx2, ⟨_, _, _, _, _, _, _, _, _, _, _, _, hm2⟩, -⟩ := id hMd
  obtain ⟨g1, hg1⟩ := hJL.2.1
  have hJ2 : JA h2 A' := ⟨hJL.1.go o2 (by decide), hI', ⟨k, hMd⟩, ⟨g1, (o2 283 (by decide)).trans hg1⟩⟩
  refine ev_pc (pc' := 1094) rfl ?_
  refine ev_istore (L' := [_, _, _, _, _, _, _, _, _]) dL_law_1094 (Nat.le_of_ble_eq_true rfl) rfl ?_
  refine ev_aload_n dL_law_1096 rfl rfl ?_
  refine ev_callV (as := []) dL_law_1097 cal_X7_thrown lk_8_83 ⟨(Nat.le_of_ble_eq_true rfl), (Nat.le_of_ble_eq_true rfl)⟩ rfl hm2.1 rfl (Nat.le_of_ble_eq_true rfl) (k_thrown hm2) (by omega) (by omega) (fun v h3 q => ?_) (fun k1 h3 q => by cases q.1)
  obtain ⟨q1, rfl⟩ := q
  cases q1
  refine ev_pc (pc' := 1100) rfl ?_
  refine ev_iload dL_law_1100 rfl ?_
  refine ev_icmp_eqN 1107 dL_law_1102 rfl (by omega) (by omega) (fun _ => ?_) (fun z => absurd rfl z)
  refine ev_iload dL_law_1107 rfl ?_
  refine ev_if_neN 1124 dL_law_1109 rfl (by omega) (fun hk0 => ?_) (fun hk0 => ?_)
  · refine ev_goto 1455 dL_law_1124 rfl ?_
    refine ev_fgt 5 (L' := [_, _, _, _, _, _, _, _, _]) rfl ?_
    refine ev_fgt 6 (L' := [_, _, _, _, _, _, _, _, _]) rfl ?_
    exact KK _ A' hJ2
  · obtain ⟨g, hg, hgx⟩ := hout hk0
    have hg2 : _ = some (aL 1 g) := (o2 283 (by decide)).trans hg
    have hbx := hb hk0
    refine ev_aload_n dL_law_1112 rfl rfl ?_
    refine ev_iconst (nI 0) dL_law_1113 rfl ?_
    refine ev_laloadN dL_law_1114 hg2 (by decide) (by decide) ?_
    refine ev_iload dL_law_1115 rfl ?_
    refine ev_i2l dL_law_1117 ?_
    refine ev_lcmp_eq 1124 dL_law_1118 dL_law_1119 rfl (fun _ => ?_) (fun z => absurd (by rw [hgx, hbx]) z)
    refine ev_goto 1455 dL_law_1124 rfl ?_
    refine ev_fgt 5 (L' := [_, _, _, _, _, _, _, _, _]) rfl ?_
    refine ev_fgt 6 (L' := [_, _, _, _, _, _, _, _, _]) rfl ?_
    exact KK _ A' hJ2
set_option maxHeartbeats 4000000 in
set_option maxRecDepth 100000 in
theorem cl_count {X : mX} (hR : RO X) {h : mH} {A : mAs} (J : JA h A) {L : Nat} {xs : Nat → Int32} (hsc : xro X (1000000 + 3) = some (L, xs)) {i : Nat} (hi : i + 3 < L) (hL : L ≤ 2048) {ce sl : Nat} (hce : ce + 1 ≤ 601024) (hsl : sl + 6 ≤ 7293033) {Q : mO → mH → Prop} (KK : ∀ h2 A', JA h2 A' → Ev X m_L_law (none, none, ce + 1, sl + 6, 601024, 7293033) 1455 [.ref (1000000 + 3), .ref 0, .ref 270, .ref 283, .int (nI i), jk, jk, jk, jk] [] h2 Q) : Ev X m_L_law (none, none, ce, sl, 601024, 7293033) 1127 [.ref (1000000 + 3), .ref 0, .ref 270, .ref 283, .int (nI i), jk, jk, jk, jk] [] h Q := by
  obtain ⟨hA, hI, ⟨k0, gz, gc, gs, gh, gk, gl, gb, gx, ⟨gr, gm, gp, gq, ge, gn, go, gu, gi, ga, gv, gw, hm⟩, -⟩, hO⟩ := id J
  have a0 := hA.1
  have m270 := hm.1
  obtain ⟨k, x, A', hI', hk, hlaw, hmod⟩ := ag_count hR J (xs (i + 1))
  refine ev_aload_n dL_law_1127 rfl rfl ?_
  refine ev_aload_n dL_law_1128 rfl rfl ?_
  refine ev_iload dL_law_1129 rfl ?_
  refine ev_iconst (nI 1) dL_law_1131 rfl ?_
  refine ev_iaddN dL_law_1132 ?_
  refine ev_ialoadRN dL_law_1133 hsc (by omega) (by omega) ?_
  refine ev_aload_n dL_law_1134 rfl rfl ?_
  refine ev_callH (as := [.ref 0, .int _, .ref 283]) dL_law_1135 cal_L_count lk_8_140 ⟨(Nat.le_of_ble_eq_true rfl), (Nat.le_of_ble_eq_true rfl)⟩ rfl rfl (Nat.le_of_ble_eq_true rfl) hlaw (by omega) (by omega) (fun v h1 q => ?_) (fun k1 h1 q => by cases q.1)
  obtain ⟨q1, hJL, hout⟩ := q
  cases q1
  refine ev_pc (pc' := 1138) rfl ?_
  refine ev_istore (L' := [_, _, _, _, _, _, _, _, _]) dL_law_1138 (Nat.le_of_ble_eq_true rfl) rfl ?_
  refine ev_aload_n dL_law_1140 rfl rfl ?_
  refine ev_aload_n dL_law_1141 rfl rfl ?_
  refine ev_iload dL_law_1142 rfl ?_
  refine ev_iconst (nI 1) dL_law_1144 rfl ?_
  refine ev_iaddN dL_law_1145 ?_
  refine ev_ialoadRN dL_law_1146 hsc (by omega) (by omega) ?_
  refine ev_callV (as := [.int _]) dL_law_1147 cal_X7_count lk_8_142 ⟨(Nat.le_of_ble_eq_true rfl), (Nat.le_of_ble_eq_true rfl)⟩ rfl ((hJL.2.2 270 (by decide) (by decide)).trans m270) rfl (Nat.le_of_ble_eq_true rfl) (hmod h1 hJL) (by omega) (by omega) (fun v h2 q => ?_) (fun k1 h2 q => by obtain ⟨v, e, -⟩ := q; cases e)
  obtain ⟨v2, e2, ⟨b, rfl, hb⟩, hMd, o2⟩ := q
  cases e2
  obtain ⟨gz2, gc2, gs2, gh2, gk2, gl2, gb2, gx2, ⟨_, _, _, _, _, _, _, _, _, _, _, _, hm2⟩, -⟩ := id hMd
  obtain ⟨g1, hg1⟩ := hJL.2.1
  have hJ2 : JA h2 A' := ⟨hJL.1.go o2 (by decide), hI', ⟨k, hMd⟩, ⟨g1, (o2 283 (by decide)).trans hg1⟩⟩
  refine ev_pc (pc' := 1150) rfl ?_
  refine ev_istore (L' := [_, _, _, _, _, _, _, _, _]) dL_law_1150 (Nat.le_of_ble_eq_true rfl) rfl ?_
  refine ev_aload_n dL_law_1152 rfl rfl ?_
  refine ev_callV (as := []) dL_law_1153 cal_X7_thrown lk_8_83 ⟨(Nat.le_of_ble_eq_true rfl), (Nat.le_of_ble_eq_true rfl)⟩ rfl hm2.1 rfl (Nat.le_of_ble_eq_true rfl) (k_thrown hm2) (by omega) (by omega) (fun v h3 q => ?_) (fun k1 h3 q => by cases q.1)
  obtain ⟨q1, rfl⟩ := q
  cases q1
  refine ev_pc (pc' := 1156) rfl ?_
  refine ev_iload dL_law_1156 rfl ?_
  refine ev_icmp_eqN 1163 dL_law_1158 rfl (by omega) (by omega) (fun _ => ?_) (fun z => absurd rfl z)
  refine ev_iload dL_law_1163 rfl ?_
  refine ev_if_neN 1180 dL_law_1165 rfl (by omega) (fun hk0 => ?_) (fun hk0 => ?_)
  · refine ev_goto 1455 dL_law_1180 rfl ?_
    refine ev_fgt 5 (L' := [_, _, _, _, _, _, _, _, _]) rfl ?_
    refine ev_fgt 6 (L' := [_, _, _, _, _, _, _, _, _]) rfl ?_
    exact KK _ A' hJ2
  · obtain ⟨g, hg, hgx⟩ := hout hk0
    have hg2 : _ = some (aL 1 g) := (o2 283 (by decide)).trans hg
    have hbx := hb hk0
    refine ev_aload_n dL_law_1168 rfl rfl ?_
    refine ev_iconst (nI 0) dL_law_1169 rfl ?_
    refine ev_laloadN dL_law_1170 hg2 (by decide) (by decide) ?_
    refine ev_iload dL_law_1171 rfl ?_
    refine ev_i2l dL_law_1173 ?_
    refine ev_lcmp_eq 1180 dL_law_1174 dL_law_1175 rfl (fun _ => ?_) (fun z => absurd (by rw [hgx, hbx]) z)
    refine ev_goto 1455 dL_law_1180 rfl ?_
    refine ev_fgt 5 (L' := [_, _, _, _, _, _, _, _, _]) rfl ?_
    refine ev_fgt 6 (L' := [_, _, _, _, _, _, _, _, _]) rfl ?_
    exact KK _ A' hJ2
set_option maxHeartbeats 4000000 in
set_option maxRecDepth 100000 in
theorem cl_setting {X : mX} (hR : RO X) {h : mH} {A : mAs} (J : JA h A) {L : Nat} {xs : Nat → Int32} (hsc : xro X (1000000 + 3) = some (L, xs)) {i : Nat} (hi : i + 3 < L) (hL : L ≤ 2048) {ce sl : Nat} (hce : ce + 1 ≤ 601024) (hsl : sl + 6 ≤ 7293033) {Q : mO → mH → Prop} (KK : ∀ h2 A', JA h2 A' → Ev X m_L_law (none, none, ce + 1, sl + 6, 601024, 7293033) 1455 [.ref (1000000 + 3), .ref 0, .ref 270, .ref 283, .int (nI i), jk, jk, jk, jk] [] h2 Q) : Ev X m_L_law (none, none, ce, sl, 601024, 7293033) 1183 [.ref (1000000 + 3), .ref 0, .ref 270, .ref 283, .int (nI i), jk, jk, jk, jk] [] h Q := by
  obtain ⟨hA, hI, ⟨k0, gz, gc, gs, gh, gk, gl, gb, gx, ⟨gr, gm, gp, gq, ge, gn, go, gu, gi, ga, gv, gw, hm⟩, -⟩, hO⟩ := id J
  have a0 := hA.1
  have m270 := hm.1
  obtain ⟨k, x, A', hI', hk, hlaw, hmod⟩ := ag_setting hR J (xs (i + 1))
  refine ev_aload_n dL_law_1183 rfl rfl ?_
  refine ev_aload_n dL_law_1184 rfl rfl ?_
  refine ev_iload dL_law_1185 rfl ?_
  refine ev_iconst (nI 1) dL_law_1187 rfl ?_
  refine ev_iaddN dL_law_1188 ?_
  refine ev_ialoadRN dL_law_1189 hsc (by omega) (by omega) ?_
  refine ev_aload_n dL_law_1190 rfl rfl ?_
  refine ev_callH (as := [.ref 0, .int _, .ref 283]) dL_law_1191 cal_L_setting lk_8_143 ⟨(Nat.le_of_ble_eq_true rfl), (Nat.le_of_ble_eq_true rfl)⟩ rfl rfl (Nat.le_of_ble_eq_true rfl) hlaw (by omega) (by omega) (fun v h1 q => ?_) (fun k1 h1 q => by cases q.1)
  obtain ⟨q1, hJL, hout⟩ := q
  cases q1
  refine ev_pc (pc' := 1194) rfl ?_
  refine ev_istore (L' := [_, _, _, _, _, _, _, _, _]) dL_law_1194 (Nat.le_of_ble_eq_true rfl) rfl ?_
  refine ev_aload_n dL_law_1196 rfl rfl ?_
  refine ev_aload_n dL_law_1197 rfl rfl ?_
  refine ev_iload dL_law_1198 rfl ?_
  refine ev_iconst (nI 1) dL_law_1200 rfl ?_
  refine ev_iaddN dL_law_1201 ?_
  refine ev_ialoadRN dL_law_1202 hsc (by omega) (by omega) ?_
  refine ev_callV (as := [.int _]) dL_law_1203 cal_X7_setting lk_8_145 ⟨(Nat.le_of_ble_eq_true rfl), (Nat.le_of_ble_eq_true rfl)⟩ rfl ((hJL.2.2 270 (by decide) (by decide)).trans m270) rfl (Nat.le_of_ble_eq_true rfl) (hmod h1 hJL) (by omega) (by omega) (fun v h2 q => ?_) (fun k1 h2 q => by obtain ⟨v, e, -⟩ := q; cases e)
  obtain ⟨v2, e2, ⟨b, rfl, hb⟩, hMd, o2⟩ := q
  cases e2
  obtain ⟨gz2, gc2, gs2, gh2, gk2, gl2, gb2, gx2, ⟨_, _, _, _, _, _, _, _, _, _, _, _, hm2⟩, -⟩ := id hMd
  obtain ⟨g1, hg1⟩ := hJL.2.1
  have hJ2 : JA h2 A' := ⟨hJL.1.go o2 (by decide), hI', ⟨k, hMd⟩, ⟨g1, (o2 283 (by decide)).trans hg1⟩⟩
  refine ev_pc (pc' := 1206) rfl ?_
  refine ev_istore (L' := [_, _, _, _, _, _, _, _, _]) dL_law_1206 (Nat.le_of_ble_eq_true rfl) rfl ?_
  refine ev_aload_n dL_law_1208 rfl rfl ?_
  refine ev_callV (as := []) dL_law_1209 cal_X7_thrown lk_8_83 ⟨(Nat.le_of_ble_eq_true rfl), (Nat.le_of_ble_eq_true rfl)⟩ rfl hm2.1 rfl (Nat.le_of_ble_eq_true rfl) (k_thrown hm2) (by omega) (by omega) (fun v h3 q => ?_) (fun k1 h3 q => by cases q.1)
  obtain ⟨q1, rfl⟩ := q
  cases q1
  refine ev_pc (pc' := 1212) rfl ?_
  refine ev_iload dL_law_1212 rfl ?_
  refine ev_icmp_eqN 1219 dL_law_1214 rfl (by omega) (by omega) (fun _ => ?_) (fun z => absurd rfl z)
  refine ev_iload dL_law_1219 rfl ?_
  refine ev_if_neN 1236 dL_law_1221 rfl (by omega) (fun hk0 => ?_) (fun hk0 => ?_)
  · refine ev_goto 1455 dL_law_1236 rfl ?_
    refine ev_fgt 5 (L' := [_, _, _, _, _, _, _, _, _]) rfl ?_
    refine ev_fgt 6 (L' := [_, _, _, _, _, _, _, _, _]) rfl ?_
    exact KK _ A' hJ2
  · obtain ⟨g, hg, hgx⟩ := hout hk0
    have hg2 : _ = some (aL 1 g) := (o2 283 (by decide)).trans hg
    have hbx := hb hk0
    refine ev_aload_n dL_law_1224 rfl rfl ?_
    refine ev_iconst (nI 0) dL_law_1225 rfl ?_
    refine ev_laloadN dL_law_1226 hg2 (by decide) (by decide) ?_
    refine ev_iload dL_law_1227 rfl ?_
    refine ev_i2l dL_law_1229 ?_
    refine ev_lcmp_eq 1236 dL_law_1230 dL_law_1231 rfl (fun _ => ?_) (fun z => absurd (by rw [hgx, hbx]) z)
    refine ev_goto 1455 dL_law_1236 rfl ?_
    refine ev_fgt 5 (L' := [_, _, _, _, _, _, _, _, _]) rfl ?_
    refine ev_fgt 6 (L' := [_, _, _, _, _, _, _, _, _]) rfl ?_
    exact KK _ A' hJ2
set_option maxHeartbeats 4000000 in
set_option maxRecDepth 100000 in
theorem cl_ifPut {X : mX} (hR : RO X) {h : mH} {A : mAs} (J : JA h A) {L : Nat} {xs : Nat → Int32} (hsc : xro X (1000000 + 3) = some (L, xs)) {i : Nat} (hi : i + 3 < L) (hL : L ≤ 2048) {ce sl : Nat} (hce : ce + 1 ≤ 601024) (hsl : sl + 6 ≤ 7293033) {Q : mO → mH → Prop} (KK : ∀ h2 A', JA h2 A' → Ev X m_L_law (none, none, ce + 1, sl + 6, 601024, 7293033) 1455 [.ref (1000000 + 3), .ref 0, .ref 270, .ref 283, .int (nI i), jk, jk, jk, jk] [] h2 Q) : Ev X m_L_law (none, none, ce, sl, 601024, 7293033) 1239 [.ref (1000000 + 3), .ref 0, .ref 270, .ref 283, .int (nI i), jk, jk, jk, jk] [] h Q := by
  obtain ⟨hA, hI, ⟨k0, gz, gc, gs, gh, gk, gl, gb, gx, ⟨gr, gm, gp, gq, ge, gn, go, gu, gi, ga, gv, gw, hm⟩, -⟩, hO⟩ := id J
  have a0 := hA.1
  have m270 := hm.1
  obtain ⟨k, x, A', hI', hk, hlaw, hmod⟩ := ag_ifPut hR J (xs (i + 1)) (xs (i + 2))
  refine ev_aload_n dL_law_1239 rfl rfl ?_
  refine ev_aload_n dL_law_1240 rfl rfl ?_
  refine ev_iload dL_law_1241 rfl ?_
  refine ev_iconst (nI 1) dL_law_1243 rfl ?_
  refine ev_iaddN dL_law_1244 ?_
  refine ev_ialoadRN dL_law_1245 hsc (by omega) (by omega) ?_
  refine ev_aload_n dL_law_1246 rfl rfl ?_
  refine ev_iload dL_law_1247 rfl ?_
  refine ev_iconst (nI 2) dL_law_1249 rfl ?_
  refine ev_iaddN dL_law_1250 ?_
  refine ev_ialoadRN dL_law_1251 hsc (by omega) (by omega) ?_
  refine ev_aload_n dL_law_1252 rfl rfl ?_
  refine ev_callH (as := [.ref 0, .int _, .int _, .ref 283]) dL_law_1253 cal_L_ifPut lk_8_146 ⟨(Nat.le_of_ble_eq_true rfl), (Nat.le_of_ble_eq_true rfl)⟩ rfl rfl (Nat.le_of_ble_eq_true rfl) hlaw (by omega) (by omega) (fun v h1 q => ?_) (fun k1 h1 q => by cases q.1)
  obtain ⟨q1, hJL, hout⟩ := q
  cases q1
  refine ev_pc (pc' := 1256) rfl ?_
  refine ev_istore (L' := [_, _, _, _, _, _, _, _, _]) dL_law_1256 (Nat.le_of_ble_eq_true rfl) rfl ?_
  refine ev_aload_n dL_law_1258 rfl rfl ?_
  refine ev_aload_n dL_law_1259 rfl rfl ?_
  refine ev_iload dL_law_1260 rfl ?_
  refine ev_iconst (nI 1) dL_law_1262 rfl ?_
  refine ev_iaddN dL_law_1263 ?_
  refine ev_ialoadRN dL_law_1264 hsc (by omega) (by omega) ?_
  refine ev_aload_n dL_law_1265 rfl rfl ?_
  refine ev_iload dL_law_1266 rfl ?_
  refine ev_iconst (nI 2) dL_law_1268 rfl ?_
  refine ev_iaddN dL_law_1269 ?_
  refine ev_ialoadRN dL_law_1270 hsc (by omega) (by omega) ?_
  refine ev_callV (as := [.int _, .int _]) dL_law_1271 cal_X7_ifPut lk_8_148 ⟨(Nat.le_of_ble_eq_true rfl), (Nat.le_of_ble_eq_true rfl)⟩ rfl ((hJL.2.2 270 (by decide) (by decide)).trans m270) rfl (Nat.le_of_ble_eq_true rfl) (hmod h1 hJL) (by omega) (by omega) (fun v h2 q => ?_) (fun k1 h2 q => by obtain ⟨v, e, -⟩ := q; cases e)
  obtain ⟨v2, e2, ⟨b, rfl, hb⟩, hMd, o2⟩ := q
  cases e2
  obtain ⟨gz2, gc2, gs2, gh2, gk2, gl2, gb2, gx2, ⟨_, _, _, _, _, _, _, _, _, _, _, _, hm2⟩, -⟩ := id hMd
  obtain ⟨g1, hg1⟩ := hJL.2.1
  have hJ2 : JA h2 A' := ⟨hJL.1.go o2 (by decide), hI', ⟨k, hMd⟩, ⟨g1, (o2 283 (by decide)).trans hg1⟩⟩
  refine ev_pc (pc' := 1274) rfl ?_
  refine ev_istore (L' := [_, _, _, _, _, _, _, _, _]) dL_law_1274 (Nat.le_of_ble_eq_true rfl) rfl ?_
  refine ev_aload_n dL_law_1276 rfl rfl ?_
  refine ev_callV (as := []) dL_law_1277 cal_X7_thrown lk_8_83 ⟨(Nat.le_of_ble_eq_true rfl), (Nat.le_of_ble_eq_true rfl)⟩ rfl hm2.1 rfl (Nat.le_of_ble_eq_true rfl) (k_thrown hm2) (by omega) (by omega) (fun v h3 q => ?_) (fun k1 h3 q => by cases q.1)
  obtain ⟨q1, rfl⟩ := q
  cases q1
  refine ev_pc (pc' := 1280) rfl ?_
  refine ev_iload dL_law_1280 rfl ?_
  refine ev_icmp_eqN 1287 dL_law_1282 rfl (by omega) (by omega) (fun _ => ?_) (fun z => absurd rfl z)
  refine ev_iload dL_law_1287 rfl ?_
  refine ev_if_neN 1304 dL_law_1289 rfl (by omega) (fun hk0 => ?_) (fun hk0 => ?_)
  · refine ev_goto 1455 dL_law_1304 rfl ?_
    refine ev_fgt 5 (L' := [_, _, _, _, _, _, _, _, _]) rfl ?_
    refine ev_fgt 6 (L' := [_, _, _, _, _, _, _, _, _]) rfl ?_
    exact KK _ A' hJ2
  · obtain ⟨g, hg, hgx⟩ := hout hk0
    have hg2 : _ = some (aL 1 g) := (o2 283 (by decide)).trans hg
    have hbx := hb hk0
    refine ev_aload_n dL_law_1292 rfl rfl ?_
    refine ev_iconst (nI 0) dL_law_1293 rfl ?_
    refine ev_laloadN dL_law_1294 hg2 (by decide) (by decide) ?_
    refine ev_iload dL_law_1295 rfl ?_
    refine ev_i2l dL_law_1297 ?_
    refine ev_lcmp_eq 1304 dL_law_1298 dL_law_1299 rfl (fun _ => ?_) (fun z => absurd (by rw [hgx, hbx]) z)
    refine ev_goto 1455 dL_law_1304 rfl ?_
    refine ev_fgt 5 (L' := [_, _, _, _, _, _, _, _, _]) rfl ?_
    refine ev_fgt 6 (L' := [_, _, _, _, _, _, _, _, _]) rfl ?_
    exact KK _ A' hJ2
set_option maxHeartbeats 4000000 in
set_option maxRecDepth 100000 in
theorem cl_ifSet {X : mX} (hR : RO X) {h : mH} {A : mAs} (J : JA h A) {L : Nat} {xs : Nat → Int32} (hsc : xro X (1000000 + 3) = some (L, xs)) {i : Nat} (hi : i + 3 < L) (hL : L ≤ 2048) {ce sl : Nat} (hce : ce + 1 ≤ 601024) (hsl : sl + 6 ≤ 7293033) {Q : mO → mH → Prop} (KK : ∀ h2 A', JA h2 A' → Ev X m_L_law (none, none, ce + 1, sl + 6, 601024, 7293033) 1455 [.ref (1000000 + 3), .ref 0, .ref 270, .ref 283, .int (nI i), jk, jk, jk, jk] [] h2 Q) : Ev X m_L_law (none, none, ce, sl, 601024, 7293033) 1307 [.ref (1000000 + 3), .ref 0, .ref 270, .ref 283, .int (nI i), jk, jk, jk, jk] [] h Q := by
  obtain ⟨hA, hI, ⟨k0, gz, gc, gs, gh, gk, gl, gb, gx, ⟨gr, gm, gp, gq, ge, gn, go, gu, gi, ga, gv, gw, hm⟩, -⟩, hO⟩ := id J
  have a0 := hA.1
  have m270 := hm.1
  obtain ⟨k, x, A', hI', hk, hlaw, hmod⟩ := ag_ifSet hR J (xs (i + 1)) (xs (i + 2)) (xs (i + 3))
  refine ev_aload_n dL_law_1307 rfl rfl ?_
  refine ev_aload_n dL_law_1308 rfl rfl ?_
  refine ev_iload dL_law_1309 rfl ?_
  refine ev_iconst (nI 1) dL_law_1311 rfl ?_
  refine ev_iaddN dL_law_1312 ?_
  refine ev_ialoadRN dL_law_1313 hsc (by omega) (by omega) ?_
  refine ev_aload_n dL_law_1314 rfl rfl ?_
  refine ev_iload dL_law_1315 rfl ?_
  refine ev_iconst (nI 2) dL_law_1317 rfl ?_
  refine ev_iaddN dL_law_1318 ?_
  refine ev_ialoadRN dL_law_1319 hsc (by omega) (by omega) ?_
  refine ev_aload_n dL_law_1320 rfl rfl ?_
  refine ev_iload dL_law_1321 rfl ?_
  refine ev_iconst (nI 3) dL_law_1323 rfl ?_
  refine ev_iaddN dL_law_1324 ?_
  refine ev_ialoadRN dL_law_1325 hsc (by omega) (by omega) ?_
  refine ev_aload_n dL_law_1326 rfl rfl ?_
  refine ev_callH (as := [.ref 0, .int _, .int _, .int _, .ref 283]) dL_law_1327 cal_L_ifSet lk_8_149 ⟨(Nat.le_of_ble_eq_true rfl), (Nat.le_of_ble_eq_true rfl)⟩ rfl rfl (Nat.le_of_ble_eq_true rfl) hlaw (by omega) (by omega) (fun v h1 q => ?_) (fun k1 h1 q => by cases q.1)
  obtain ⟨q1, hJL, hout⟩ := q
  cases q1
  refine ev_pc (pc' := 1330) rfl ?_
  refine ev_istore (L' := [_, _, _, _, _, _, _, _, _]) dL_law_1330 (Nat.le_of_ble_eq_true rfl) rfl ?_
  refine ev_aload_n dL_law_1332 rfl rfl ?_
  refine ev_aload_n dL_law_1333 rfl rfl ?_
  refine ev_iload dL_law_1334 rfl ?_
  refine ev_iconst (nI 1) dL_law_1336 rfl ?_
  refine ev_iaddN dL_law_1337 ?_
  refine ev_ialoadRN dL_law_1338 hsc (by omega) (by omega) ?_
  refine ev_aload_n dL_law_1339 rfl rfl ?_
  refine ev_iload dL_law_1340 rfl ?_
  refine ev_iconst (nI 2) dL_law_1342 rfl ?_
  refine ev_iaddN dL_law_1343 ?_
  refine ev_ialoadRN dL_law_1344 hsc (by omega) (by omega) ?_
  refine ev_aload_n dL_law_1345 rfl rfl ?_
  refine ev_iload dL_law_1346 rfl ?_
  refine ev_iconst (nI 3) dL_law_1348 rfl ?_
  refine ev_iaddN dL_law_1349 ?_
  refine ev_ialoadRN dL_law_1350 hsc (by omega) (by omega) ?_
  refine ev_callV (as := [.int _, .int _, .int _]) dL_law_1351 cal_X7_ifSet lk_8_151 ⟨(Nat.le_of_ble_eq_true rfl), (Nat.le_of_ble_eq_true rfl)⟩ rfl ((hJL.2.2 270 (by decide) (by decide)).trans m270) rfl (Nat.le_of_ble_eq_true rfl) (hmod h1 hJL) (by omega) (by omega) (fun v h2 q => ?_) (fun k1 h2 q => by obtain ⟨v, e, -⟩ := q; cases e)
  obtain ⟨v2, e2, ⟨b, rfl, hb⟩, hMd, o2⟩ := q
  cases e2
  obtain ⟨gz2, gc2, gs2, gh2, gk2, gl2, gb2, gx2, ⟨_, _, _, _, _, _, _, _, _, _, _, _, hm2⟩, -⟩ := id hMd
  obtain ⟨g1, hg1⟩ := hJL.2.1
  have hJ2 : JA h2 A' := ⟨hJL.1.go o2 (by decide), hI', ⟨k, hMd⟩, ⟨g1, (o2 283 (by decide)).trans hg1⟩⟩
  refine ev_pc (pc' := 1354) rfl ?_
  refine ev_istore (L' := [_, _, _, _, _, _, _, _, _]) dL_law_1354 (Nat.le_of_ble_eq_true rfl) rfl ?_
  refine ev_aload_n dL_law_1356 rfl rfl ?_
  refine ev_callV (as := []) dL_law_1357 cal_X7_thrown lk_8_83 ⟨(Nat.le_of_ble_eq_true rfl), (Nat.le_of_ble_eq_true rfl)⟩ rfl hm2.1 rfl (Nat.le_of_ble_eq_true rfl) (k_thrown hm2) (by omega) (by omega) (fun v h3 q => ?_) (fun k1 h3 q => by cases q.1)
  obtain ⟨q1, rfl⟩ := q
  cases q1
  refine ev_pc (pc' := 1360) rfl ?_
  refine ev_iload dL_law_1360 rfl ?_
  refine ev_icmp_eqN 1367 dL_law_1362 rfl (by omega) (by omega) (fun _ => ?_) (fun z => absurd rfl z)
  refine ev_iload dL_law_1367 rfl ?_
  refine ev_if_neN 1384 dL_law_1369 rfl (by omega) (fun hk0 => ?_) (fun hk0 => ?_)
  · refine ev_goto 1455 dL_law_1384 rfl ?_
    refine ev_fgt 5 (L' := [_, _, _, _, _, _, _, _, _]) rfl ?_
    refine ev_fgt 6 (L' := [_, _, _, _, _, _, _, _, _]) rfl ?_
    exact KK _ A' hJ2
  · obtain ⟨g, hg, hgx⟩ := hout hk0
    have hg2 : _ = some (aL 1 g) := (o2 283 (by decide)).trans hg
    have hbx := hb hk0
    refine ev_aload_n dL_law_1372 rfl rfl ?_
    refine ev_iconst (nI 0) dL_law_1373 rfl ?_
    refine ev_laloadN dL_law_1374 hg2 (by decide) (by decide) ?_
    refine ev_iload dL_law_1375 rfl ?_
    refine ev_i2l dL_law_1377 ?_
    refine ev_lcmp_eq 1384 dL_law_1378 dL_law_1379 rfl (fun _ => ?_) (fun z => absurd (by rw [hgx, hbx]) z)
    refine ev_goto 1455 dL_law_1384 rfl ?_
    refine ev_fgt 5 (L' := [_, _, _, _, _, _, _, _, _]) rfl ?_
    refine ev_fgt 6 (L' := [_, _, _, _, _, _, _, _, _]) rfl ?_
    exact KK _ A' hJ2
set_option maxHeartbeats 4000000 in
set_option maxRecDepth 100000 in
theorem cl_sweep {X : mX} (hR : RO X) {h : mH} {A : mAs} (J : JA h A) {L : Nat} {xs : Nat → Int32} (hsc : xro X (1000000 + 3) = some (L, xs)) {i : Nat} (hi : i + 3 < L) (hL : L ≤ 2048) {ce sl : Nat} (hce : ce + 1 ≤ 601024) (hsl : sl + 6 ≤ 7293033) {Q : mO → mH → Prop} (KK : ∀ h2 A', JA h2 A' → Ev X m_L_law (none, none, ce + 1, sl + 6, 601024, 7293033) 1455 [.ref (1000000 + 3), .ref 0, .ref 270, .ref 283, .int (nI i), jk, jk, jk, jk] [] h2 Q) : Ev X m_L_law (none, none, ce, sl, 601024, 7293033) 544 [.ref (1000000 + 3), .ref 0, .ref 270, .ref 283, .int (nI i), jk, jk, jk, jk] [] h Q := by
  obtain ⟨hA, hI, ⟨k0, gz, gc, gs, gh, gk, gl, gb, gx, ⟨gr, gm, gp, gq, ge, gn, go, gu, gi, ga, gv, gw, hm⟩, -⟩, hO⟩ := id J
  have a0 := hA.1
  have m270 := hm.1
  obtain ⟨x, A', hI', hcl, hmod⟩ := ag_sweep hR J
  obtain ⟨g0, hg0⟩ := hO
  refine ev_aload_n dL_law_544 rfl rfl ?_
  refine ev_callV (as := []) dL_law_545 cal_X6_sweep lk_8_103 ⟨(Nat.le_of_ble_eq_true rfl), (Nat.le_of_ble_eq_true rfl)⟩ rfl a0 rfl (Nat.le_of_ble_eq_true rfl) hcl (by omega) (by omega) (fun v h1 q => ?_) (fun k1 h1 q => by obtain ⟨v, e, -⟩ := q; cases e)
  obtain ⟨v1, e1, rfl, hcls, o1⟩ := q
  cases e1
  refine ev_pc (pc' := 548) rfl ?_
  refine ev_aload_n dL_law_548 rfl rfl ?_
  refine ev_callV (as := []) dL_law_549 cal_X7_sweep lk_8_106 ⟨(Nat.le_of_ble_eq_true rfl), (Nat.le_of_ble_eq_true rfl)⟩ rfl ((o1 270 (by decide)).trans m270) rfl (Nat.le_of_ble_eq_true rfl) (hmod h1 ⟨hcls, o1⟩) (by omega) (by omega) (fun v h2 q => ?_) (fun k1 h2 q => by obtain ⟨v, e, -⟩ := q; cases e)
  obtain ⟨v2, e2, rfl, hMd, o2⟩ := q
  cases e2
  refine ev_pc (pc' := 552) rfl ?_
  refine ev_icmp_eq 1455 dL_law_552 rfl (fun _ => ?_) (fun z => absurd rfl z)
  exact ev_wid (Nat.le_succ ce) (Nat.le_add_right sl 6) (KK h2 A' ⟨hcls.go o2 (by decide), hI', ⟨0, hMd⟩, ⟨g0, (o2 283 (by decide)).trans ((o1 283 (by decide)).trans hg0)⟩⟩)
set_option maxHeartbeats 4000000 in
set_option maxRecDepth 100000 in
theorem cl_clearBuffer {X : mX} (hR : RO X) {h : mH} {A : mAs} (J : JA h A) {L : Nat} {xs : Nat → Int32} (hsc : xro X (1000000 + 3) = some (L, xs)) {i : Nat} (hi : i + 3 < L) (hL : L ≤ 2048) {ce sl : Nat} (hce : ce + 1 ≤ 601024) (hsl : sl + 6 ≤ 7293033) {Q : mO → mH → Prop} (KK : ∀ h2 A', JA h2 A' → Ev X m_L_law (none, none, ce + 1, sl + 6, 601024, 7293033) 1455 [.ref (1000000 + 3), .ref 0, .ref 270, .ref 283, .int (nI i), jk, jk, jk, jk] [] h2 Q) : Ev X m_L_law (none, none, ce, sl, 601024, 7293033) 681 [.ref (1000000 + 3), .ref 0, .ref 270, .ref 283, .int (nI i), jk, jk, jk, jk] [] h Q := by
  obtain ⟨hA, hI, ⟨k0, gz, gc, gs, gh, gk, gl, gb, gx, ⟨gr, gm, gp, gq, ge, gn, go, gu, gi, ga, gv, gw, hm⟩, -⟩, hO⟩ := id J
  have a0 := hA.1
  have m270 := hm.1
  obtain ⟨x, A', hI', hcl, hmod⟩ := ag_clearBuffer hR J
  obtain ⟨g0, hg0⟩ := hO
  refine ev_aload_n dL_law_681 rfl rfl ?_
  refine ev_callV (as := []) dL_law_682 cal_X6_clearBuffer lk_8_113 ⟨(Nat.le_of_ble_eq_true rfl), (Nat.le_of_ble_eq_true rfl)⟩ rfl a0 rfl (Nat.le_of_ble_eq_true rfl) hcl (by omega) (by omega) (fun v h1 q => ?_) (fun k1 h1 q => by obtain ⟨v, e, -⟩ := q; cases e)
  obtain ⟨v1, e1, rfl, hcls, o1⟩ := q
  cases e1
  refine ev_pc (pc' := 685) rfl ?_
  refine ev_aload_n dL_law_685 rfl rfl ?_
  refine ev_callV (as := []) dL_law_686 cal_X7_clearBuffer lk_8_116 ⟨(Nat.le_of_ble_eq_true rfl), (Nat.le_of_ble_eq_true rfl)⟩ rfl ((o1 270 (by decide)).trans m270) rfl (Nat.le_of_ble_eq_true rfl) (hmod h1 ⟨hcls, o1⟩) (by omega) (by omega) (fun v h2 q => ?_) (fun k1 h2 q => by obtain ⟨v, e, -⟩ := q; cases e)
  obtain ⟨v2, e2, rfl, hMd, o2⟩ := q
  cases e2
  refine ev_pc (pc' := 689) rfl ?_
  refine ev_icmp_eq 1455 dL_law_689 rfl (fun _ => ?_) (fun z => absurd rfl z)
  exact ev_wid (Nat.le_succ ce) (Nat.le_add_right sl 6) (KK h2 A' ⟨hcls.go o2 (by decide), hI', ⟨0, hMd⟩, ⟨g0, (o2 283 (by decide)).trans ((o1 283 (by decide)).trans hg0)⟩⟩)
set_option maxHeartbeats 4000000 in
set_option maxRecDepth 100000 in
theorem cl_firstError {X : mX} (hR : RO X) {h : mH} {A : mAs} (J : JA h A) {L : Nat} {xs : Nat → Int32} (hsc : xro X (1000000 + 3) = some (L, xs)) {i : Nat} (hi : i + 3 < L) (hL : L ≤ 2048) {ce sl : Nat} (hce : ce + 1 ≤ 601024) (hsl : sl + 6 ≤ 7293033) {Q : mO → mH → Prop} (KK : ∀ h2 A', JA h2 A' → Ev X m_L_law (none, none, ce + 1, sl + 6, 601024, 7293033) 1455 [.ref (1000000 + 3), .ref 0, .ref 270, .ref 283, .int (nI i), jk, jk, jk, jk] [] h2 Q) : Ev X m_L_law (none, none, ce, sl, 601024, 7293033) 694 [.ref (1000000 + 3), .ref 0, .ref 270, .ref 283, .int (nI i), jk, jk, jk, jk] [] h Q := by
  obtain ⟨hA, hI, ⟨k0, gz, gc, gs, gh, gk, gl, gb, gx, ⟨gr, gm, gp, gq, ge, gn, go, gu, gi, ga, gv, gw, hm⟩, -⟩, hO⟩ := id J
  have a0 := hA.1
  have m270 := hm.1
  obtain ⟨x, A', hI', hcl, hmod⟩ := ag_firstError hR J
  obtain ⟨g0, hg0⟩ := hO
  refine ev_aload_n dL_law_694 rfl rfl ?_
  refine ev_callV (as := []) dL_law_695 cal_X6_firstError lk_8_117 ⟨(Nat.le_of_ble_eq_true rfl), (Nat.le_of_ble_eq_true rfl)⟩ rfl a0 rfl (Nat.le_of_ble_eq_true rfl) hcl (by omega) (by omega) (fun v h1 q => ?_) (fun k1 h1 q => by obtain ⟨v, e, -⟩ := q; cases e)
  obtain ⟨v1, e1, rfl, hcls, o1⟩ := q
  cases e1
  refine ev_pc (pc' := 698) rfl ?_
  refine ev_aload_n dL_law_698 rfl rfl ?_
  refine ev_callV (as := []) dL_law_699 cal_X7_firstError lk_8_120 ⟨(Nat.le_of_ble_eq_true rfl), (Nat.le_of_ble_eq_true rfl)⟩ rfl ((o1 270 (by decide)).trans m270) rfl (Nat.le_of_ble_eq_true rfl) (hmod h1 ⟨hcls, o1⟩) (by omega) (by omega) (fun v h2 q => ?_) (fun k1 h2 q => by obtain ⟨v, e, -⟩ := q; cases e)
  obtain ⟨v2, e2, rfl, hMd, o2⟩ := q
  cases e2
  refine ev_pc (pc' := 702) rfl ?_
  refine ev_icmp_eq 1455 dL_law_702 rfl (fun _ => ?_) (fun z => absurd rfl z)
  exact ev_wid (Nat.le_succ ce) (Nat.le_add_right sl 6) (KK h2 A' ⟨hcls.go o2 (by decide), hI', ⟨0, hMd⟩, ⟨g0, (o2 283 (by decide)).trans ((o1 283 (by decide)).trans hg0)⟩⟩)
set_option maxHeartbeats 4000000 in
set_option maxRecDepth 100000 in
theorem cl_bestDivisor {X : mX} (hR : RO X) {h : mH} {A : mAs} (J : JA h A) {L : Nat} {xs : Nat → Int32} (hsc : xro X (1000000 + 3) = some (L, xs)) {i : Nat} (hi : i + 3 < L) (hL : L ≤ 2048) {ce sl : Nat} (hce : ce + 1 ≤ 601024) (hsl : sl + 6 ≤ 7293033) {Q : mO → mH → Prop} (KK : ∀ h2 A', JA h2 A' → Ev X m_L_law (none, none, ce + 1, sl + 6, 601024, 7293033) 1455 [.ref (1000000 + 3), .ref 0, .ref 270, .ref 283, .int (nI i), jk, jk, jk, jk] [] h2 Q) : Ev X m_L_law (none, none, ce, sl, 601024, 7293033) 1387 [.ref (1000000 + 3), .ref 0, .ref 270, .ref 283, .int (nI i), jk, jk, jk, jk] [] h Q := by
  obtain ⟨hA, hI, ⟨k0, gz, gc, gs, gh, gk, gl, gb, gx, ⟨gr, gm, gp, gq, ge, gn, go, gu, gi, ga, gv, gw, hm⟩, -⟩, hO⟩ := id J
  have a0 := hA.1
  have m270 := hm.1
  obtain ⟨x, A', hI', hcl, hmod⟩ := ag_bestDivisor hR J
  obtain ⟨g0, hg0⟩ := hO
  refine ev_aload_n dL_law_1387 rfl rfl ?_
  refine ev_callV (as := []) dL_law_1388 cal_X6_bestDivisor lk_8_152 ⟨(Nat.le_of_ble_eq_true rfl), (Nat.le_of_ble_eq_true rfl)⟩ rfl a0 rfl (Nat.le_of_ble_eq_true rfl) hcl (by omega) (by omega) (fun v h1 q => ?_) (fun k1 h1 q => by obtain ⟨v, e, -⟩ := q; cases e)
  obtain ⟨v1, e1, rfl, hcls, o1⟩ := q
  cases e1
  refine ev_pc (pc' := 1391) rfl ?_
  refine ev_aload_n dL_law_1391 rfl rfl ?_
  refine ev_callV (as := []) dL_law_1392 cal_X7_bestDivisor lk_8_155 ⟨(Nat.le_of_ble_eq_true rfl), (Nat.le_of_ble_eq_true rfl)⟩ rfl ((o1 270 (by decide)).trans m270) rfl (Nat.le_of_ble_eq_true rfl) (hmod h1 ⟨hcls, o1⟩) (by omega) (by omega) (fun v h2 q => ?_) (fun k1 h2 q => by obtain ⟨v, e, -⟩ := q; cases e)
  obtain ⟨v2, e2, rfl, hMd, o2⟩ := q
  cases e2
  refine ev_pc (pc' := 1395) rfl ?_
  refine ev_icmp_eq 1455 dL_law_1395 rfl (fun _ => ?_) (fun z => absurd rfl z)
  exact ev_wid (Nat.le_succ ce) (Nat.le_add_right sl 6) (KK h2 A' ⟨hcls.go o2 (by decide), hI', ⟨0, hMd⟩, ⟨g0, (o2 283 (by decide)).trans ((o1 283 (by decide)).trans hg0)⟩⟩)
set_option maxHeartbeats 4000000 in
set_option maxRecDepth 100000 in
theorem cl_digest {X : mX} (hR : RO X) {h : mH} {A : mAs} (J : JA h A) {L : Nat} {xs : Nat → Int32} (hsc : xro X (1000000 + 3) = some (L, xs)) {i : Nat} (hi : i + 3 < L) (hL : L ≤ 2048) {ce sl : Nat} (hce : ce + 1 ≤ 601024) (hsl : sl + 6 ≤ 7293033) {Q : mO → mH → Prop} (KK : ∀ h2 A', JA h2 A' → Ev X m_L_law (none, none, ce + 1, sl + 6, 601024, 7293033) 1455 [.ref (1000000 + 3), .ref 0, .ref 270, .ref 283, .int (nI i), jk, jk, jk, jk] [] h2 Q) : Ev X m_L_law (none, none, ce, sl, 601024, 7293033) 1441 [.ref (1000000 + 3), .ref 0, .ref 270, .ref 283, .int (nI i), jk, jk, jk, jk] [] h Q := by
  obtain ⟨hA, hI, ⟨k0, gz, gc, gs, gh, gk, gl, gb, gx, ⟨gr, gm, gp, gq, ge, gn, go, gu, gi, ga, gv, gw, hm⟩, -⟩, hO⟩ := id J
  have a0 := hA.1
  have m270 := hm.1
  obtain ⟨x, A', hI', hcl, hmod⟩ := ag_digest hR J
  obtain ⟨g0, hg0⟩ := hO
  refine ev_aload_n dL_law_1441 rfl rfl ?_
  refine ev_callV (as := []) dL_law_1442 cal_X6_digest lk_8_161 ⟨(Nat.le_of_ble_eq_true rfl), (Nat.le_of_ble_eq_true rfl)⟩ rfl a0 rfl (Nat.le_of_ble_eq_true rfl) hcl (by omega) (by omega) (fun v h1 q => ?_) (fun k1 h1 q => by obtain ⟨v, e, -⟩ := q; cases e)
  obtain ⟨v1, e1, rfl, hcls, o1⟩ := q
  cases e1
  refine ev_pc (pc' := 1445) rfl ?_
  refine ev_aload_n dL_law_1445 rfl rfl ?_
  refine ev_callV (as := []) dL_law_1446 cal_X7_digest lk_8_165 ⟨(Nat.le_of_ble_eq_true rfl), (Nat.le_of_ble_eq_true rfl)⟩ rfl ((o1 270 (by decide)).trans m270) rfl (Nat.le_of_ble_eq_true rfl) (hmod h1 ⟨hcls, o1⟩) (by omega) (by omega) (fun v h2 q => ?_) (fun k1 h2 q => by obtain ⟨v, e, -⟩ := q; cases e)
  obtain ⟨v2, e2, rfl, hMd, o2⟩ := q
  cases e2
  refine ev_pc (pc' := 1449) rfl ?_
  refine ev_lcmp_eq 1455 dL_law_1449 dL_law_1450 rfl (fun _ => ?_) (fun z => absurd rfl z)
  exact ev_wid (Nat.le_succ ce) (Nat.le_add_right sl 6) (KK h2 A' ⟨hcls.go o2 (by decide), hI', ⟨0, hMd⟩, ⟨g0, (o2 283 (by decide)).trans ((o1 283 (by decide)).trans hg0)⟩⟩)
set_option maxHeartbeats 4000000 in
set_option maxRecDepth 100000 in
theorem cl_savedShare {X : mX} (hR : RO X) {h : mH} {A : mAs} (J : JA h A) {L : Nat} {xs : Nat → Int32} (hsc : xro X (1000000 + 3) = some (L, xs)) {i : Nat} (hi : i + 3 < L) (hL : L ≤ 2048) {ce sl : Nat} (hce : ce + 1 ≤ 601024) (hsl : sl + 6 ≤ 7293033) {Q : mO → mH → Prop} (KK : ∀ h2 A', JA h2 A' → Ev X m_L_law (none, none, ce + 1, sl + 6, 601024, 7293033) 1455 [.ref (1000000 + 3), .ref 0, .ref 270, .ref 283, .int (nI i), jk, jk, jk, jk] [] h2 Q) : Ev X m_L_law (none, none, ce, sl, 601024, 7293033) 1400 [.ref (1000000 + 3), .ref 0, .ref 270, .ref 283, .int (nI i), jk, jk, jk, jk] [] h Q := by
  obtain ⟨hA, hI, ⟨k0, gz, gc, gs, gh, gk, gl, gb, gx, ⟨gr, gm, gp, gq, ge, gn, go, gu, gi, ga, gv, gw, hm⟩, -⟩, hO⟩ := id J
  have a0 := hA.1
  have m270 := hm.1
  obtain ⟨x, hx, hcl, hmod⟩ := ag_savedShare hR J
  obtain ⟨g0, hg0⟩ := hO
  refine ev_aload_n dL_law_1400 rfl rfl ?_
  refine ev_callV (as := []) dL_law_1401 cal_X6_savedShare lk_8_156 ⟨(Nat.le_of_ble_eq_true rfl), (Nat.le_of_ble_eq_true rfl)⟩ rfl a0 rfl (Nat.le_of_ble_eq_true rfl) hcl (by omega) (by omega) (fun v h1 q => ?_) (fun k1 h1 q => by cases q.1)
  obtain ⟨e1, rfl⟩ := q
  cases e1
  refine ev_pc (pc' := 1404) rfl ?_
  refine ev_dstore (L' := [_, _, _, _, _, _, _, _, _]) dL_law_1404 (Nat.le_of_ble_eq_true rfl) rfl ?_
  refine ev_aload_n dL_law_1406 rfl rfl ?_
  refine ev_callV (as := []) dL_law_1407 cal_X7_savedShare lk_8_160 ⟨(Nat.le_of_ble_eq_true rfl), (Nat.le_of_ble_eq_true rfl)⟩ rfl m270 rfl (Nat.le_of_ble_eq_true rfl) hmod (by omega) (by omega) (fun v h2 q => ?_) (fun k1 h2 q => by obtain ⟨v, e, -⟩ := q; cases e)
  obtain ⟨v2, e2, rfl, hMd, o2⟩ := q
  cases e2
  refine ev_pc (pc' := 1410) rfl ?_
  refine ev_dstore (L' := [_, _, _, _, _, _, _, _, _]) dL_law_1410 (Nat.le_of_ble_eq_true rfl) rfl ?_
  refine ev_dload dL_law_1412 rfl ?_
  refine ev_dload dL_law_1414 rfl ?_
  refine ev_dcmp dL_law_1416 ?_
  rw [hx]
  refine ev_if_eq 1438 dL_law_1417 rfl (fun _ => ?_) (fun z => absurd rfl z)
  refine ev_goto 1455 dL_law_1438 rfl ?_
  refine ev_fgt 5 (L' := [_, _, _, _, _, _, _, _, _]) rfl ?_
  refine ev_fgt 7 (L' := [_, _, _, _, _, _, _, _, _]) rfl ?_
  exact ev_wid (Nat.le_succ ce) (Nat.le_add_right sl 6) (KK h2 A ⟨hA.go o2 (by decide), hI, ⟨0, hMd⟩, ⟨g0, (o2 283 (by decide)).trans hg0⟩⟩)
