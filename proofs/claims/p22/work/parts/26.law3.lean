def wp_L_isSent_L333 (E : EV) (post : Int32 → (Nat → Int32) → Option Nat → Int32 → Nat → Int32 → List Nat → (Nat → va_E) → (Nat → Int64) → Int32 → (Nat → Int64) → Int32 → (Nat → Int32) → (Nat → Int32) → (Nat → Int32) → Prop)  : Nat → (Nat → Int32) → Option Nat → Int32 → Nat → Int32 → List Nat → (Nat → va_E) → (Nat → Int64) → Int32 → (Nat → Int64) → Int32 → (Nat → Int32) → (Nat → Int32) → (Nat → Int32) → Int32 → Int32 → Prop
  | 0, _, _, _, _, _, _, _, _, _, _, _, _, _, _, _, _ => False
  | n + 1, gx_L, lt_L, mo_L, ad_L, ln_L, PL_L, pf_L, pw_L, pk_L, lw_L, lk_L, ik_L, cw_L, mw_L, x3, x6 => (wp_X2_pending E (fun r_1298 : Int32 => ((r_1298 = 0 → (wp_X2_marksInTheEnd E (fun r_1300 : Int32 => ((r_1300 < x6 → False) ∧ (¬ (r_1300 < x6) → ((x3 = 1 → (wp_X2_marksInTheEnd E (fun r_1303 : Int32 => ((r_1303 = x6 → post 1 gx_L lt_L mo_L ad_L ln_L PL_L pf_L pw_L pk_L lw_L lk_L ik_L cw_L mw_L) ∧ (¬ (r_1303 = x6) → False))) gx_L lt_L mo_L ad_L ln_L PL_L pf_L pw_L pk_L lw_L lk_L ik_L)) ∧ (¬ (x3 = 1) → ((x3 = 3 → (wp_X2_marksInTheEnd E (fun r_1306 : Int32 => ((r_1306 = x6 → post 1 gx_L lt_L mo_L ad_L ln_L PL_L pf_L pw_L pk_L lw_L lk_L ik_L cw_L mw_L) ∧ (¬ (r_1306 = x6) → False))) gx_L lt_L mo_L ad_L ln_L PL_L pf_L pw_L pk_L lw_L lk_L ik_L)) ∧ (¬ (x3 = 3) → post 1 gx_L lt_L mo_L ad_L ln_L PL_L pf_L pw_L pk_L lw_L lk_L ik_L cw_L mw_L))))))) gx_L lt_L mo_L ad_L ln_L PL_L pf_L pw_L pk_L lw_L lk_L ik_L)) ∧ (¬ (r_1298 = 0) → False))) gx_L lt_L mo_L ad_L ln_L PL_L pf_L pw_L pk_L lw_L lk_L ik_L)
def wp_L_isSent_L300 (E : EV) (post : Int32 → (Nat → Int32) → Option Nat → Int32 → Nat → Int32 → List Nat → (Nat → va_E) → (Nat → Int64) → Int32 → (Nat → Int64) → Int32 → (Nat → Int32) → (Nat → Int32) → (Nat → Int32) → Prop)  : Nat → (Nat → Int32) → Option Nat → Int32 → Nat → Int32 → List Nat → (Nat → va_E) → (Nat → Int64) → Int32 → (Nat → Int64) → Int32 → (Nat → Int32) → (Nat → Int32) → (Nat → Int32) → Int32 → Int32 → Int32 → Int32 → Int32 → Prop
  | 0, _, _, _, _, _, _, _, _, _, _, _, _, _, _, _, _, _, _, _ => False
  | n + 1, gx_L, lt_L, mo_L, ad_L, ln_L, PL_L, pf_L, pw_L, pk_L, lw_L, lk_L, ik_L, cw_L, mw_L, x3, x4, x6, x9, x10 => ((x4 ≤ x10 → (∃ n : Nat, wp_L_isSent_L333 E post n gx_L lt_L mo_L ad_L ln_L PL_L pf_L pw_L pk_L lw_L lk_L ik_L cw_L mw_L x3 x6)) ∧ (¬ (x4 ≤ x10) → ((x9 = 0 → (∃ n : Nat, wp_L_isSent_L333 E post n gx_L lt_L mo_L ad_L ln_L PL_L pf_L pw_L pk_L lw_L lk_L ik_L cw_L mw_L x3 x6)) ∧ (¬ (x9 = 0) → (wp_L_queues E (fun (r_1311 : Int32) (cw_1312 : Nat → Int32) (mw_1313 : Nat → Int32) => (wp_L_isSent_L300 E post n gx_L lt_L mo_L ad_L ln_L PL_L pf_L pw_L pk_L lw_L lk_L ik_L cw_1312 mw_1313 x3 x4 x6 x9 (x10 + 1))) cw_L mw_L (mw_L (2 : Int32).toNatClampNeg) (mw_L (3 : Int32).toNatClampNeg) (mw_L (4 : Int32).toNatClampNeg))))))
def wp_L_isSent (E : EV) (post : Int32 → (Nat → Int32) → Option Nat → Int32 → Nat → Int32 → List Nat → (Nat → va_E) → (Nat → Int64) → Int32 → (Nat → Int64) → Int32 → (Nat → Int32) → (Nat → Int32) → (Nat → Int32) → Prop) (gx : Nat → Int32) (lt : Option Nat) (mo : Int32) (ad : Nat) (ln : Int32) (PL : List Nat) (pf : Nat → va_E) (pw : Nat → Int64) (pk : Int32) (lw : Nat → Int64) (lk : Int32) (ik : Nat → Int32) (cw : Nat → Int32) (mw : Nat → Int32) (p0 : Int32) (p1 : Int32) (p2 : Int32) : Prop := (wp_X2_marksInTheEnd E (fun r_1229 : Int32 => ((8 ≤ (mw (0 : Int32).toNatClampNeg) → (wp_L_all E (fun r_1231 : Int64 => (wp_L_act E (fun (r_1232 : Int32) (gx_1233 : Nat → Int32) (lt_1234 : Option Nat) (mo_1235 : Int32) (ad_1236 : Nat) (ln_1237 : Int32) (PL_1238 : List Nat) (pf_1239 : Nat → va_E) (pw_1240 : Nat → Int64) (pk_1241 : Int32) (lw_1242 : Nat → Int64) (lk_1243 : Int32) (ik_1244 : Nat → Int32) => ((r_1232 = 0 → (wp_L_act E (fun (r_1246 : Int32) (gx_1247 : Nat → Int32) (lt_1248 : Option Nat) (mo_1249 : Int32) (ad_1250 : Nat) (ln_1251 : Int32) (PL_1252 : List Nat) (pf_1253 : Nat → va_E) (pw_1254 : Nat → Int64) (pk_1255 : Int32) (lw_1256 : Nat → Int64) (lk_1257 : Int32) (ik_1258 : Nat → Int32) => ((r_1246 = 0 → (wp_L_all E (fun r_1260 : Int64 => (((lg_cmp r_1260 r_1231) = 0 → post 1 gx_1247 lt_1248 mo_1249 ad_1250 ln_1251 PL_1252 pf_1253 pw_1254 pk_1255 lw_1256 lk_1257 ik_1258 cw mw) ∧ (¬ (lg_cmp r_1260 r_1231) = 0 → False))) gx_1247 lt_1248 mo_1249 ad_1250 ln_1251 PL_1252 pf_1253 pw_1254 pk_1255 lw_1256 lk_1257 ik_1258)) ∧ (¬ (r_1246 = 0) → False))) gx_1233 lt_1234 mo_1235 ad_1236 ln_1237 PL_1238 pf_1239 pw_1240 pk_1241 lw_1242 lk_1243 ik_1244 0 (p1 &&& 255) 0)) ∧ (¬ (r_1232 = 0) → False))) gx lt mo ad ln PL pf pw pk lw lk ik 0 p0 0)) gx lt mo ad ln PL pf pw pk lw lk ik)) ∧ (¬ (8 ≤ (mw (0 : Int32).toNatClampNeg)) → (wp_L_act E (fun (r_1262 : Int32) (gx_1263 : Nat → Int32) (lt_1264 : Option Nat) (mo_1265 : Int32) (ad_1266 : Nat) (ln_1267 : Int32) (PL_1268 : List Nat) (pf_1269 : Nat → va_E) (pw_1270 : Nat → Int64) (pk_1271 : Int32) (lw_1272 : Nat → Int64) (lk_1273 : Int32) (ik_1274 : Nat → Int32) => ((r_1262 = 1 → (wp_X2_pending E (fun r_1276 : Int32 => ((r_1276 = 1 → (wp_X2_queued E (fun r_1278 : Int32 => ((r_1278 = (mw (0 : Int32).toNatClampNeg) → ((3 ≤ p0 → (wp_L_act E (fun (r_1281 : Int32) (gx_1282 : Nat → Int32) (lt_1283 : Option Nat) (mo_1284 : Int32) (ad_1285 : Nat) (ln_1286 : Int32) (PL_1287 : List Nat) (pf_1288 : Nat → va_E) (pw_1289 : Nat → Int64) (pk_1290 : Int32) (lw_1291 : Nat → Int64) (lk_1292 : Int32) (ik_1293 : Nat → Int32) => ((r_1281 = 1 → ((p0 = 3 → (wp_L_queues E (fun (r_1320 : Int32) (cw_1321 : Nat → Int32) (mw_1322 : Nat → Int32) => (∃ n : Nat, wp_L_isSent_L333 E post n gx_1282 lt_1283 mo_1284 ad_1285 ln_1286 PL_1287 pf_1288 pw_1289 pk_1290 lw_1291 lk_1292 ik_1293 cw_1321 mw_1322 p0 r_1229)) cw mw 3 (p1 &&& 255) 0)) ∧ (¬ (p0 = 3) → ((p1 ≤ 0 → (∃ n : Nat, wp_L_isSent_L300 E post n gx_1282 lt_1283 mo_1284 ad_1285 ln_1286 PL_1287 pf_1288 pw_1289 pk_1290 lw_1291 lk_1292 ik_1293 cw (upd mw (1 : Int32).toNatClampNeg ((mw (1 : Int32).toNatClampNeg) + 1)) p0 p1 r_1229 0 0)) ∧ (¬ (p1 ≤ 0) → ((10 ≤ p1 → (∃ n : Nat, wp_L_isSent_L300 E post n gx_1282 lt_1283 mo_1284 ad_1285 ln_1286 PL_1287 pf_1288 pw_1289 pk_1290 lw_1291 lk_1292 ik_1293 cw (upd mw (1 : Int32).toNatClampNeg ((mw (1 : Int32).toNatClampNeg) + 1)) p0 p1 r_1229 0 0)) ∧ (¬ (10 ≤ p1) → (((mw (2 : Int32).toNatClampNeg) ≤ 0 → (∃ n : Nat, wp_L_isSent_L300 E post n gx_1282 lt_1283 mo_1284 ad_1285 ln_1286 PL_1287 pf_1288 pw_1289 pk_1290 lw_1291 lk_1292 ik_1293 cw (upd mw (1 : Int32).toNatClampNeg ((mw (1 : Int32).toNatClampNeg) + 1)) p0 p1 r_1229 0 0)) ∧ (¬ (mw (2 : Int32).toNatClampNeg) ≤ 0 → (∃ n : Nat, wp_L_isSent_L300 E post n gx_1282 lt_1283 mo_1284 ad_1285 ln_1286 PL_1287 pf_1288 pw_1289 pk_1290 lw_1291 lk_1292 ik_1293 cw (upd mw (1 : Int32).toNatClampNeg ((mw (1 : Int32).toNatClampNeg) + 0)) p0 p1 r_1229 1 0)))))))))) ∧ (¬ (r_1281 = 1) → False))) gx_1263 lt_1264 mo_1265 ad_1266 ln_1267 PL_1268 pf_1269 pw_1270 pk_1271 lw_1272 lk_1273 ik_1274 0 (p1 &&& 255) 0)) ∧ (¬ (3 ≤ p0) → (wp_L_act E (fun (r_1324 : Int32) (gx_1325 : Nat → Int32) (lt_1326 : Option Nat) (mo_1327 : Int32) (ad_1328 : Nat) (ln_1329 : Int32) (PL_1330 : List Nat) (pf_1331 : Nat → va_E) (pw_1332 : Nat → Int64) (pk_1333 : Int32) (lw_1334 : Nat → Int64) (lk_1335 : Int32) (ik_1336 : Nat → Int32) => ((r_1324 = 1 → (wp_X2_pending E (fun r_1338 : Int32 => ((r_1338 = 2 → (wp_X2_errors E (fun r_1340 : Int32 => ((r_1340 = (mw (1 : Int32).toNatClampNeg) → (wp_L_act E (fun (r_1342 : Int32) (gx_1343 : Nat → Int32) (lt_1344 : Option Nat) (mo_1345 : Int32) (ad_1346 : Nat) (ln_1347 : Int32) (PL_1348 : List Nat) (pf_1349 : Nat → va_E) (pw_1350 : Nat → Int64) (pk_1351 : Int32) (lw_1352 : Nat → Int64) (lk_1353 : Int32) (ik_1354 : Nat → Int32) => ((r_1342 = 1 → (wp_L_queues E (fun (r_1356 : Int32) (cw_1357 : Nat → Int32) (mw_1358 : Nat → Int32) => ((r_1356 = 0 → (∃ n : Nat, wp_L_isSent_L333 E post n gx_1343 lt_1344 mo_1345 ad_1346 ln_1347 PL_1348 pf_1349 pw_1350 pk_1351 lw_1352 lk_1353 ik_1354 cw_1357 mw_1358 p0 r_1229)) ∧ (¬ (r_1356 = 0) → (∃ n : Nat, wp_L_isSent_L333 E post n gx_1343 lt_1344 mo_1345 ad_1346 ln_1347 PL_1348 pf_1349 pw_1350 pk_1351 lw_1352 lk_1353 ik_1354 cw_1357 (upd (upd (upd mw_1358 (2 : Int32).toNatClampNeg p0) (3 : Int32).toNatClampNeg p1) (4 : Int32).toNatClampNeg p2) p0 r_1229)))) cw mw p0 p1 p2)) ∧ (¬ (r_1342 = 1) → False))) gx_1325 lt_1326 mo_1327 ad_1328 ln_1329 PL_1330 pf_1331 pw_1332 pk_1333 lw_1334 lk_1335 ik_1336 0 (p2 &&& 255) 0)) ∧ (¬ (r_1340 = (mw (1 : Int32).toNatClampNeg)) → False))) gx_1325 lt_1326 mo_1327 ad_1328 ln_1329 PL_1330 pf_1331 pw_1332 pk_1333 lw_1334 lk_1335 ik_1336)) ∧ (¬ (r_1338 = 2) → False))) gx_1325 lt_1326 mo_1327 ad_1328 ln_1329 PL_1330 pf_1331 pw_1332 pk_1333 lw_1334 lk_1335 ik_1336)) ∧ (¬ (r_1324 = 1) → False))) gx_1263 lt_1264 mo_1265 ad_1266 ln_1267 PL_1268 pf_1269 pw_1270 pk_1271 lw_1272 lk_1273 ik_1274 0 (p1 &&& 255) 0)))) ∧ (¬ (r_1278 = (mw (0 : Int32).toNatClampNeg)) → False))) gx_1263 lt_1264 mo_1265 ad_1266 ln_1267 PL_1268 pf_1269 pw_1270 pk_1271 lw_1272 lk_1273 ik_1274)) ∧ (¬ (r_1276 = 1) → False))) gx_1263 lt_1264 mo_1265 ad_1266 ln_1267 PL_1268 pf_1269 pw_1270 pk_1271 lw_1272 lk_1273 ik_1274)) ∧ (¬ (r_1262 = 1) → False))) gx lt mo ad ln PL pf pw pk lw lk ik 0 p0 0)))) gx lt mo ad ln PL pf pw pk lw lk ik)
set_option maxHeartbeats 4000000 in
set_option maxRecDepth 100000 in
theorem c_L_isSent (E : EV) (l : Launch) (ax : Nat → Nat) (bx : Nat → Nat) (gx : Nat → Int32) (lt : Option Nat) (mo : Int32) (ad : Nat) (ln : Int32) (PL : List Nat) (pf : Nat → va_E) (pw : Nat → Int64) (pk : Int32) (lw : Nat → Int64) (lk : Int32) (ik : Nat → Int32) (cw : Nat → Int32) (mw : Nat → Int32) (p0 : Int32) (p1 : Int32) (p2 : Int32) (hz : Nat) (post : Int32 → (Nat → Int32) → Option Nat → Int32 → Nat → Int32 → List Nat → (Nat → va_E) → (Nat → Int64) → Int32 → (Nat → Int64) → Int32 → (Nat → Int32) → (Nat → Int32) → (Nat → Int32) → Prop) (hw : wp_L_isSent E post gx lt mo ad ln PL pf pw pk lw lk ik cw mw p0 p1 p2) (hst : l.stackTraces = false) : Met l yL_isSent (Cond.code yL_isSent cL_isSent 11 (some .boolean) :: ALLW) ({ frames := 13, cells := 27, slots := 864, locals := 279 } : Room) (va_Pc [.ref (ax 0), .ref (bx 0), .ref (bx 1), .int p0, .int p1, .int p2] (preM E (wLP E ax bx gx lt mo ad ln PL pf pw pk lw lk ik cw mw) hz)) (va_Qi (fun (r : Int32) (u : (Nat → Int32) × Option Nat × Int32 × Nat × Int32 × List Nat × (Nat → va_E) × (Nat → Int64) × Int32 × (Nat → Int64) × Int32 × (Nat → Int32) × (Nat → Int32) × (Nat → Int32)) => post r u.1 u.2.1 u.2.2.1 u.2.2.2.1 u.2.2.2.2.1 u.2.2.2.2.2.1 u.2.2.2.2.2.2.1 u.2.2.2.2.2.2.2.1 u.2.2.2.2.2.2.2.2.1 u.2.2.2.2.2.2.2.2.2.1 u.2.2.2.2.2.2.2.2.2.2.1 u.2.2.2.2.2.2.2.2.2.2.2.1 u.2.2.2.2.2.2.2.2.2.2.2.2.1 u.2.2.2.2.2.2.2.2.2.2.2.2.2) (fun (u : (Nat → Int32) × Option Nat × Int32 × Nat × Int32 × List Nat × (Nat → va_E) × (Nat → Int64) × Int32 × (Nat → Int64) × Int32 × (Nat → Int32) × (Nat → Int32) × (Nat → Int32)) t => va_P (eD E) vwCl (wLP E ax bx u.1 u.2.1 u.2.2.1 u.2.2.2.1 u.2.2.2.2.1 u.2.2.2.2.2.1 u.2.2.2.2.2.2.1 u.2.2.2.2.2.2.2.1 u.2.2.2.2.2.2.2.2.1 u.2.2.2.2.2.2.2.2.2.1 u.2.2.2.2.2.2.2.2.2.2.1 u.2.2.2.2.2.2.2.2.2.2.2.1 u.2.2.2.2.2.2.2.2.2.2.2.2.1 u.2.2.2.2.2.2.2.2.2.2.2.2.2) t.heap ∧ va_D (va_A (wLP E ax bx gx lt mo ad ln PL pf pw pk lw lk ik cw mw) hz) (wLP E ax bx u.1 u.2.1 u.2.2.1 u.2.2.2.1 u.2.2.2.2.1 u.2.2.2.2.2.1 u.2.2.2.2.2.2.1 u.2.2.2.2.2.2.2.1 u.2.2.2.2.2.2.2.2.1 u.2.2.2.2.2.2.2.2.2.1 u.2.2.2.2.2.2.2.2.2.2.1 u.2.2.2.2.2.2.2.2.2.2.2.1 u.2.2.2.2.2.2.2.2.2.2.2.2.1 u.2.2.2.2.2.2.2.2.2.2.2.2.2)) (va_A (wLP E ax bx gx lt mo ad ln PL pf pw pk lw lk ik cw mw) hz)) 27 864 (va_A (wLP E ax bx gx lt mo ad ln PL pf pw pk lw lk ik cw mw) hz) := by
  refine Met.ofW (cc := cL_isSent) (maxL := 11) (ret := (some .boolean)) (by decide) rfl ?_
  intro p e s m args below meth c s₁ B hml hv
  obtain ⟨rfl, hpre⟩ := hv
  have hx := B.exec
  have hb := B.bytes
  have hr := B.returns
  have hlocks := B.notSynchronized
  have hts := atoms_spec (ws := (Cond.code yL_isSent cL_isSent 11 (some .boolean) :: ALLW)) B.pre
  have hta : ∀ w ∈ ALLW, w.before ([.ref (ax 0), .ref (bx 0), .ref (bx 1), .int p0, .int p1, .int p2] : List Value).toArray s = true := fun w h => hts w (List.mem_cons_of_mem _ h)
  have hown : s.vm.findClass RL = some m.cls := findClass_of_methodNamed B.named
  obtain ⟨hsz, hP, hKE, hD0, hZ⟩ := hpre
  subst hsz
  have hD := hD0.self (sz := s.heap.size)
  generalize hAe : va_A (wLP E ax bx gx lt mo ad ln PL pf pw pk lw lk ik cw mw) s.heap.size = A at hD hZ ⊢
  have hA : ∀ q : Nat, s.heap.size ≤ q → A q := fun q h => by rw [← hAe]; exact Or.inr h
  have hS : va_S A s.heap s.heap [] := va_S.rf
  have hP : va_P (eD E) vwCl ([((ax 0), .inr (3, [.ref (ax 1), .ref (ax 2), .ref (ax 4), .ref (ax 6), .int (gx 4), .int (gx 5), .int (gx 6), .int (gx 7), va_rf lt, .int (gx 9), .int (gx 10), .int (gx 11), .int (gx 12), .int (gx 13), .int (gx 14), .int (gx 15), .int (gx 16), .int (gx 17), .int (gx 18)])), ((ax 1), .inr (0, [.int mo, .ref ad, .int ln])), ((ax 2), .inr (2, [.ref (ax 3), .int pk])), ((ax 3), .inl (eC E 1, 157, .inr (.inl pw))), ((ax 4), .inr (2, [.ref (ax 5), .int lk])), ((ax 5), .inl (eC E 1, 157, .inr (.inl lw))), ((ax 6), .inl (eC E 0, 3, .inl ik)), ((bx 0), .inl (eC E 0, 64, .inl cw)), ((bx 1), .inl (eC E 0, 8, .inl mw))] ++ va_pl PL pf) s.heap := hP
  have hD : va_D A ([((ax 0), .inr (3, [.ref (ax 1), .ref (ax 2), .ref (ax 4), .ref (ax 6), .int (gx 4), .int (gx 5), .int (gx 6), .int (gx 7), va_rf lt, .int (gx 9), .int (gx 10), .int (gx 11), .int (gx 12), .int (gx 13), .int (gx 14), .int (gx 15), .int (gx 16), .int (gx 17), .int (gx 18)])), ((ax 1), .inr (0, [.int mo, .ref ad, .int ln])), ((ax 2), .inr (2, [.ref (ax 3), .int pk])), ((ax 3), .inl (eC E 1, 157, .inr (.inl pw))), ((ax 4), .inr (2, [.ref (ax 5), .int lk])), ((ax 5), .inl (eC E 1, 157, .inr (.inl lw))), ((ax 6), .inl (eC E 0, 3, .inl ik)), ((bx 0), .inl (eC E 0, 64, .inl cw)), ((bx 1), .inl (eC E 0, 8, .inl mw))] ++ va_pl PL pf) := hD
  have hl := lv_entry ([.ref (ax 0), .ref (bx 0), .ref (bx 1), .int p0, .int p1, .int p2]) (n := 11) (Nat.le_of_ble_eq_true rfl)
  rw [lg_entry_eq]
  generalize (lg_sl ([.ref (ax 0), .ref (bx 0), .ref (bx 1), .int p0, .int p1, .int p2]) ++ List.replicate (11 - (lg_sl ([.ref (ax 0), .ref (bx 0), .ref (bx 1), .int p0, .int p1, .int p2])).length) Slot.unset).toArray = ls at hl ⊢
  have hl : lv_has ls 11 [(0, .ref (ax 0)), (1, .ref (bx 0)), (2, .ref (bx 1)), (3, .int p0), (4, .int p1), (5, .int p2)] := hl
  have loop_333 : ∀ (n : Nat) (gx_L : Nat → Int32) (lt_L : Option Nat) (mo_L : Int32) (ad_L : Nat) (ln_L : Int32) (PL_L : List Nat) (pf_L : Nat → va_E) (pw_L : Nat → Int64) (pk_L : Int32) (lw_L : Nat → Int64) (lk_L : Int32) (ik_L : Nat → Int32) (cw_L : Nat → Int32) (mw_L : Nat → Int32) (x3 : Int32) (x6 : Int32), wp_L_isSent_L333 E post n gx_L lt_L mo_L ad_L ln_L PL_L pf_L pw_L pk_L lw_L lk_L ik_L cw_L mw_L x3 x6 → ∀ (H : Heap) (locs : List Loc), va_P (eD E) vwCl ([((ax 0), .inr (3, [.ref (ax 1), .ref (ax 2), .ref (ax 4), .ref (ax 6), .int (gx_L 4), .int (gx_L 5), .int (gx_L 6), .int (gx_L 7), va_rf lt_L, .int (gx_L 9), .int (gx_L 10), .int (gx_L 11), .int (gx_L 12), .int (gx_L 13), .int (gx_L 14), .int (gx_L 15), .int (gx_L 16), .int (gx_L 17), .int (gx_L 18)])), ((ax 1), .inr (0, [.int mo_L, .ref ad_L, .int ln_L])), ((ax 2), .inr (2, [.ref (ax 3), .int pk_L])), ((ax 3), .inl (eC E 1, 157, .inr (.inl pw_L))), ((ax 4), .inr (2, [.ref (ax 5), .int lk_L])), ((ax 5), .inl (eC E 1, 157, .inr (.inl lw_L))), ((ax 6), .inl (eC E 0, 3, .inl ik_L)), ((bx 0), .inl (eC E 0, 64, .inl cw_L)), ((bx 1), .inl (eC E 0, 8, .inl mw_L))] ++ va_pl PL_L pf_L) H → va_D A ([((ax 0), .inr (3, [.ref (ax 1), .ref (ax 2), .ref (ax 4), .ref (ax 6), .int (gx_L 4), .int (gx_L 5), .int (gx_L 6), .int (gx_L 7), va_rf lt_L, .int (gx_L 9), .int (gx_L 10), .int (gx_L 11), .int (gx_L 12), .int (gx_L 13), .int (gx_L 14), .int (gx_L 15), .int (gx_L 16), .int (gx_L 17), .int (gx_L 18)])), ((ax 1), .inr (0, [.int mo_L, .ref ad_L, .int ln_L])), ((ax 2), .inr (2, [.ref (ax 3), .int pk_L])), ((ax 3), .inl (eC E 1, 157, .inr (.inl pw_L))), ((ax 4), .inr (2, [.ref (ax 5), .int lk_L])), ((ax 5), .inl (eC E 1, 157, .inr (.inl lw_L))), ((ax 6), .inl (eC E 0, 3, .inl ik_L)), ((bx 0), .inl (eC E 0, 64, .inl cw_L)), ((bx 1), .inl (eC E 0, 8, .inl mw_L))] ++ va_pl PL_L pf_L) → va_S A s.heap H locs → ∀ (ls : Array Slot), lv_has ls 11 [(0, .ref (ax 0)), (1, .ref (bx 0)), (2, .ref (bx 1)), (3, .int x3), (6, .int x6), (8, .int 1)] → W p l e (headSpec (Cond.code yL_isSent cL_isSent 11 (some .boolean) :: ALLW) ({ frames := 13, cells := 27, slots := 864, locals := 279 } : Room)).room s m ([.ref (ax 0), .ref (bx 0), .ref (bx 1), .int p0, .int p1, .int p2] : List Value).toArray below meth c H locs 27 864 (MQ below (va_Qi (fun (r : Int32) (u : (Nat → Int32) × Option Nat × Int32 × Nat × Int32 × List Nat × (Nat → va_E) × (Nat → Int64) × Int32 × (Nat → Int64) × Int32 × (Nat → Int32) × (Nat → Int32) × (Nat → Int32)) => post r u.1 u.2.1 u.2.2.1 u.2.2.2.1 u.2.2.2.2.1 u.2.2.2.2.2.1 u.2.2.2.2.2.2.1 u.2.2.2.2.2.2.2.1 u.2.2.2.2.2.2.2.2.1 u.2.2.2.2.2.2.2.2.2.1 u.2.2.2.2.2.2.2.2.2.2.1 u.2.2.2.2.2.2.2.2.2.2.2.1 u.2.2.2.2.2.2.2.2.2.2.2.2.1 u.2.2.2.2.2.2.2.2.2.2.2.2.2) (fun (u : (Nat → Int32) × Option Nat × Int32 × Nat × Int32 × List Nat × (Nat → va_E) × (Nat → Int64) × Int32 × (Nat → Int64) × Int32 × (Nat → Int32) × (Nat → Int32) × (Nat → Int32)) t => va_P (eD E) vwCl (wLP E ax bx u.1 u.2.1 u.2.2.1 u.2.2.2.1 u.2.2.2.2.1 u.2.2.2.2.2.1 u.2.2.2.2.2.2.1 u.2.2.2.2.2.2.2.1 u.2.2.2.2.2.2.2.2.1 u.2.2.2.2.2.2.2.2.2.1 u.2.2.2.2.2.2.2.2.2.2.1 u.2.2.2.2.2.2.2.2.2.2.2.1 u.2.2.2.2.2.2.2.2.2.2.2.2.1 u.2.2.2.2.2.2.2.2.2.2.2.2.2) t.heap ∧ va_D A (wLP E ax bx u.1 u.2.1 u.2.2.1 u.2.2.2.1 u.2.2.2.2.1 u.2.2.2.2.2.1 u.2.2.2.2.2.2.1 u.2.2.2.2.2.2.2.1 u.2.2.2.2.2.2.2.2.1 u.2.2.2.2.2.2.2.2.2.1 u.2.2.2.2.2.2.2.2.2.2.1 u.2.2.2.2.2.2.2.2.2.2.2.1 u.2.2.2.2.2.2.2.2.2.2.2.2.1 u.2.2.2.2.2.2.2.2.2.2.2.2.2)) A) ([.ref (ax 0), .ref (bx 0), .ref (bx 1), .int p0, .int p1, .int p2] : List Value).toArray s 27 864 A) (F0 m 333 ls []) := by
    intro n
    induction n with
    | zero => intro gx_L lt_L mo_L ad_L ln_L PL_L pf_L pw_L pk_L lw_L lk_L ik_L cw_L mw_L x3 x6 hw; exact hw.elim
    | succ n ih =>
      intro gx_L lt_L mo_L ad_L ln_L PL_L pf_L pw_L pk_L lw_L lk_L ik_L cw_L mw_L x3 x6 hw H locs hP hD hS ls hl
      unfold wp_L_isSent_L333 at hw
      refine lv_iload hx hb dL_isSent_333 (lv_at hl 5 rfl) ?_
      refine lv_if_eq (tgt := 377) hx hb dL_isSent_335 (by decide) (fun c9 => absurd c9 (by decide)) (fun _ => ?_)
      refine lv_aload_n hx hb dL_isSent_338 rfl (lv_at hl 0 rfl) ?_
      have hPc : va_P (eD E) vwCl (wX E ax gx_L lt_L mo_L ad_L ln_L PL_L pf_L pw_L pk_L lw_L lk_L ik_L) H := hP.part [0, 1, 2, 3, 4, 5, 6] rfl
      refine vp_callSi (va_Run.run (va_runV (As := []) (rest := []) ⟨hx, hb, hml, hown, hta⟩ (c_X2_pending E l ax gx_L lt_L mo_L ad_L ln_L PL_L pf_L pw_L pk_L lw_L lk_L ik_L _ hw) (pcV (n := 0) hta tw_129 tw_126 tw_1 tw_127 tw_128 rfl rfl hd_X2_pending ⟨Nat.le_of_ble_eq_true rfl, Nat.le_of_ble_eq_true rfl⟩) ⟨fbR, va_recv hKE.1 hP (ci := 3) (q0 := 0) rfl rfl, fun U hU hW => ⟨rfl, preR.mk hPc hKE hU hW⟩⟩ rfl rfl hl.1 rfl (lv_room (Nat.le_of_ble_eq_true rfl)) dL_isSent_339 ⟨Nat.le_of_ble_eq_true rfl, Nat.le_of_ble_eq_true rfl⟩)) (fun r_1298 hw => ?_)
      refine lv_if_ne (tgt := 377) hx hb dL_isSent_342 (by decide) (fun c_1299 => ?_) (fun c_1299 => ?_)
      · have hw := hw.2 c_1299
        exact hw.elim
      · have hw := hw.1 c_1299
        refine lv_aload_n hx hb dL_isSent_345 rfl (lv_at hl 0 rfl) ?_
        have hPc : va_P (eD E) vwCl (wX E ax gx_L lt_L mo_L ad_L ln_L PL_L pf_L pw_L pk_L lw_L lk_L ik_L) H := hP.part [0, 1, 2, 3, 4, 5, 6] rfl
        refine vp_callSi (va_Run.run (va_runV (As := []) (rest := []) ⟨hx, hb, hml, hown, hta⟩ (c_X2_marksInTheEnd E l ax gx_L lt_L mo_L ad_L ln_L PL_L pf_L pw_L pk_L lw_L lk_L ik_L _ hw) (pcV (n := 0) hta tw_223 tw_220 tw_1 tw_221 tw_222 rfl rfl hd_X2_marksInTheEnd ⟨Nat.le_of_ble_eq_true rfl, Nat.le_of_ble_eq_true rfl⟩) ⟨fbR, va_recv hKE.1 hP (ci := 3) (q0 := 0) rfl rfl, fun U hU hW => ⟨rfl, preR.mk hPc hKE hU hW⟩⟩ rfl rfl hl.1 rfl (lv_room (Nat.le_of_ble_eq_true rfl)) dL_isSent_346 ⟨Nat.le_of_ble_eq_true rfl, Nat.le_of_ble_eq_true rfl⟩)) (fun r_1300 hw => ?_)
        refine lv_iload hx hb dL_isSent_349 (lv_at hl 4 rfl) ?_
        refine lv_icmp_lt (tgt := 377) hx hb dL_isSent_351 (by decide) (fun c_1301 => ?_) (fun c_1301 => ?_)
        · have hw := hw.1 c_1301
          exact hw.elim
        · have hw := hw.2 c_1301
          refine lv_iload_n hx hb dL_isSent_354 rfl (lv_at hl 3 rfl) ?_
          refine lv_iconst (v := 1) hx hb dL_isSent_355 (by decide) ?_
          refine lv_icmp_eq (tgt := 364) hx hb dL_isSent_356 (by decide) (fun c_1302 => ?_) (fun c_1302 => ?_)
          · have hw := hw.1 c_1302
            refine lv_aload_n hx hb dL_isSent_364 rfl (lv_at hl 0 rfl) ?_
            have hPc : va_P (eD E) vwCl (wX E ax gx_L lt_L mo_L ad_L ln_L PL_L pf_L pw_L pk_L lw_L lk_L ik_L) H := hP.part [0, 1, 2, 3, 4, 5, 6] rfl
            refine vp_callSi (va_Run.run (va_runV (As := []) (rest := []) ⟨hx, hb, hml, hown, hta⟩ (c_X2_marksInTheEnd E l ax gx_L lt_L mo_L ad_L ln_L PL_L pf_L pw_L pk_L lw_L lk_L ik_L _ hw) (pcV (n := 0) hta tw_223 tw_220 tw_1 tw_221 tw_222 rfl rfl hd_X2_marksInTheEnd ⟨Nat.le_of_ble_eq_true rfl, Nat.le_of_ble_eq_true rfl⟩) ⟨fbR, va_recv hKE.1 hP (ci := 3) (q0 := 0) rfl rfl, fun U hU hW => ⟨rfl, preR.mk hPc hKE hU hW⟩⟩ rfl rfl hl.1 rfl (lv_room (Nat.le_of_ble_eq_true rfl)) dL_isSent_365 ⟨Nat.le_of_ble_eq_true rfl, Nat.le_of_ble_eq_true rfl⟩)) (fun r_1303 hw => ?_)
            refine lv_iload hx hb dL_isSent_368 (lv_at hl 4 rfl) ?_
            refine lv_icmp_ne (tgt := 377) hx hb dL_isSent_370 (by decide) (fun c_1304 => ?_) (fun c_1304 => ?_)
            · have hw := hw.2 c_1304
              exact hw.elim
            · have hw := hw.1 c_1304
              refine lv_iconst (v := 1) hx hb dL_isSent_373 (by decide) ?_
              refine lv_goto (tgt := 378) hx hb dL_isSent_374 (by decide) ?_
              have hP9 : va_P (eD E) vwCl (wLP E ax bx gx_L lt_L mo_L ad_L ln_L PL_L pf_L pw_L pk_L lw_L lk_L ik_L cw_L mw_L) H := hP
              have hD9 : va_D A (wLP E ax bx gx_L lt_L mo_L ad_L ln_L PL_L pf_L pw_L pk_L lw_L lk_L ik_L cw_L mw_L) := hD
              exact W.zret (v := 1) hx hb hr rfl (fun t ht hW => ⟨⟨1, (gx_L, lt_L, mo_L, ad_L, ln_L, PL_L, pf_L, pw_L, pk_L, lw_L, lk_L, ik_L, cw_L, mw_L), rfl, hw, ⟨by rw [ht]; exact hP9, hD9⟩⟩, hS.F ht⟩) hS.2.2 dL_isSent_378
          · have hw := hw.2 c_1302
            refine lv_iload_n hx hb dL_isSent_359 rfl (lv_at hl 3 rfl) ?_
            refine lv_iconst (v := 3) hx hb dL_isSent_360 (by decide) ?_
            refine lv_icmp_ne (tgt := 373) hx hb dL_isSent_361 (by decide) (fun c_1305 => ?_) (fun c_1305 => ?_)
            · have hw := hw.2 c_1305
              refine lv_iconst (v := 1) hx hb dL_isSent_373 (by decide) ?_
              refine lv_goto (tgt := 378) hx hb dL_isSent_374 (by decide) ?_
              have hP9 : va_P (eD E) vwCl (wLP E ax bx gx_L lt_L mo_L ad_L ln_L PL_L pf_L pw_L pk_L lw_L lk_L ik_L cw_L mw_L) H := hP
              have hD9 : va_D A (wLP E ax bx gx_L lt_L mo_L ad_L ln_L PL_L pf_L pw_L pk_L lw_L lk_L ik_L cw_L mw_L) := hD
              exact W.zret (v := 1) hx hb hr rfl (fun t ht hW => ⟨⟨1, (gx_L, lt_L, mo_L, ad_L, ln_L, PL_L, pf_L, pw_L, pk_L, lw_L, lk_L, ik_L, cw_L, mw_L), rfl, hw, ⟨by rw [ht]; exact hP9, hD9⟩⟩, hS.F ht⟩) hS.2.2 dL_isSent_378
            · have hw := hw.1 c_1305
              refine lv_aload_n hx hb dL_isSent_364 rfl (lv_at hl 0 rfl) ?_
              have hPc : va_P (eD E) vwCl (wX E ax gx_L lt_L mo_L ad_L ln_L PL_L pf_L pw_L pk_L lw_L lk_L ik_L) H := hP.part [0, 1, 2, 3, 4, 5, 6] rfl
              refine vp_callSi (va_Run.run (va_runV (As := []) (rest := []) ⟨hx, hb, hml, hown, hta⟩ (c_X2_marksInTheEnd E l ax gx_L lt_L mo_L ad_L ln_L PL_L pf_L pw_L pk_L lw_L lk_L ik_L _ hw) (pcV (n := 0) hta tw_223 tw_220 tw_1 tw_221 tw_222 rfl rfl hd_X2_marksInTheEnd ⟨Nat.le_of_ble_eq_true rfl, Nat.le_of_ble_eq_true rfl⟩) ⟨fbR, va_recv hKE.1 hP (ci := 3) (q0 := 0) rfl rfl, fun U hU hW => ⟨rfl, preR.mk hPc hKE hU hW⟩⟩ rfl rfl hl.1 rfl (lv_room (Nat.le_of_ble_eq_true rfl)) dL_isSent_365 ⟨Nat.le_of_ble_eq_true rfl, Nat.le_of_ble_eq_true rfl⟩)) (fun r_1306 hw => ?_)
              refine lv_iload hx hb dL_isSent_368 (lv_at hl 4 rfl) ?_
              refine lv_icmp_ne (tgt := 377) hx hb dL_isSent_370 (by decide) (fun c_1307 => ?_) (fun c_1307 => ?_)
              · have hw := hw.2 c_1307
                exact hw.elim
              · have hw := hw.1 c_1307
                refine lv_iconst (v := 1) hx hb dL_isSent_373 (by decide) ?_
                refine lv_goto (tgt := 378) hx hb dL_isSent_374 (by decide) ?_
                have hP9 : va_P (eD E) vwCl (wLP E ax bx gx_L lt_L mo_L ad_L ln_L PL_L pf_L pw_L pk_L lw_L lk_L ik_L cw_L mw_L) H := hP
                have hD9 : va_D A (wLP E ax bx gx_L lt_L mo_L ad_L ln_L PL_L pf_L pw_L pk_L lw_L lk_L ik_L cw_L mw_L) := hD
                exact W.zret (v := 1) hx hb hr rfl (fun t ht hW => ⟨⟨1, (gx_L, lt_L, mo_L, ad_L, ln_L, PL_L, pf_L, pw_L, pk_L, lw_L, lk_L, ik_L, cw_L, mw_L), rfl, hw, ⟨by rw [ht]; exact hP9, hD9⟩⟩, hS.F ht⟩) hS.2.2 dL_isSent_378
  have loop_300 : ∀ (n : Nat) (gx_L : Nat → Int32) (lt_L : Option Nat) (mo_L : Int32) (ad_L : Nat) (ln_L : Int32) (PL_L : List Nat) (pf_L : Nat → va_E) (pw_L : Nat → Int64) (pk_L : Int32) (lw_L : Nat → Int64) (lk_L : Int32) (ik_L : Nat → Int32) (cw_L : Nat → Int32) (mw_L : Nat → Int32) (x3 : Int32) (x4 : Int32) (x6 : Int32) (x9 : Int32) (x10 : Int32), wp_L_isSent_L300 E post n gx_L lt_L mo_L ad_L ln_L PL_L pf_L pw_L pk_L lw_L lk_L ik_L cw_L mw_L x3 x4 x6 x9 x10 → ∀ (H : Heap) (locs : List Loc), va_P (eD E) vwCl ([((ax 0), .inr (3, [.ref (ax 1), .ref (ax 2), .ref (ax 4), .ref (ax 6), .int (gx_L 4), .int (gx_L 5), .int (gx_L 6), .int (gx_L 7), va_rf lt_L, .int (gx_L 9), .int (gx_L 10), .int (gx_L 11), .int (gx_L 12), .int (gx_L 13), .int (gx_L 14), .int (gx_L 15), .int (gx_L 16), .int (gx_L 17), .int (gx_L 18)])), ((ax 1), .inr (0, [.int mo_L, .ref ad_L, .int ln_L])), ((ax 2), .inr (2, [.ref (ax 3), .int pk_L])), ((ax 3), .inl (eC E 1, 157, .inr (.inl pw_L))), ((ax 4), .inr (2, [.ref (ax 5), .int lk_L])), ((ax 5), .inl (eC E 1, 157, .inr (.inl lw_L))), ((ax 6), .inl (eC E 0, 3, .inl ik_L)), ((bx 0), .inl (eC E 0, 64, .inl cw_L)), ((bx 1), .inl (eC E 0, 8, .inl mw_L))] ++ va_pl PL_L pf_L) H → va_D A ([((ax 0), .inr (3, [.ref (ax 1), .ref (ax 2), .ref (ax 4), .ref (ax 6), .int (gx_L 4), .int (gx_L 5), .int (gx_L 6), .int (gx_L 7), va_rf lt_L, .int (gx_L 9), .int (gx_L 10), .int (gx_L 11), .int (gx_L 12), .int (gx_L 13), .int (gx_L 14), .int (gx_L 15), .int (gx_L 16), .int (gx_L 17), .int (gx_L 18)])), ((ax 1), .inr (0, [.int mo_L, .ref ad_L, .int ln_L])), ((ax 2), .inr (2, [.ref (ax 3), .int pk_L])), ((ax 3), .inl (eC E 1, 157, .inr (.inl pw_L))), ((ax 4), .inr (2, [.ref (ax 5), .int lk_L])), ((ax 5), .inl (eC E 1, 157, .inr (.inl lw_L))), ((ax 6), .inl (eC E 0, 3, .inl ik_L)), ((bx 0), .inl (eC E 0, 64, .inl cw_L)), ((bx 1), .inl (eC E 0, 8, .inl mw_L))] ++ va_pl PL_L pf_L) → va_S A s.heap H locs → ∀ (ls : Array Slot), lv_has ls 11 [(0, .ref (ax 0)), (1, .ref (bx 0)), (2, .ref (bx 1)), (3, .int x3), (4, .int x4), (6, .int x6), (8, .int 1), (9, .int x9), (10, .int x10)] → W p l e (headSpec (Cond.code yL_isSent cL_isSent 11 (some .boolean) :: ALLW) ({ frames := 13, cells := 27, slots := 864, locals := 279 } : Room)).room s m ([.ref (ax 0), .ref (bx 0), .ref (bx 1), .int p0, .int p1, .int p2] : List Value).toArray below meth c H locs 18 576 (MQ below (va_Qi (fun (r : Int32) (u : (Nat → Int32) × Option Nat × Int32 × Nat × Int32 × List Nat × (Nat → va_E) × (Nat → Int64) × Int32 × (Nat → Int64) × Int32 × (Nat → Int32) × (Nat → Int32) × (Nat → Int32)) => post r u.1 u.2.1 u.2.2.1 u.2.2.2.1 u.2.2.2.2.1 u.2.2.2.2.2.1 u.2.2.2.2.2.2.1 u.2.2.2.2.2.2.2.1 u.2.2.2.2.2.2.2.2.1 u.2.2.2.2.2.2.2.2.2.1 u.2.2.2.2.2.2.2.2.2.2.1 u.2.2.2.2.2.2.2.2.2.2.2.1 u.2.2.2.2.2.2.2.2.2.2.2.2.1 u.2.2.2.2.2.2.2.2.2.2.2.2.2) (fun (u : (Nat → Int32) × Option Nat × Int32 × Nat × Int32 × List Nat × (Nat → va_E) × (Nat → Int64) × Int32 × (Nat → Int64) × Int32 × (Nat → Int32) × (Nat → Int32) × (Nat → Int32)) t => va_P (eD E) vwCl (wLP E ax bx u.1 u.2.1 u.2.2.1 u.2.2.2.1 u.2.2.2.2.1 u.2.2.2.2.2.1 u.2.2.2.2.2.2.1 u.2.2.2.2.2.2.2.1 u.2.2.2.2.2.2.2.2.1 u.2.2.2.2.2.2.2.2.2.1 u.2.2.2.2.2.2.2.2.2.2.1 u.2.2.2.2.2.2.2.2.2.2.2.1 u.2.2.2.2.2.2.2.2.2.2.2.2.1 u.2.2.2.2.2.2.2.2.2.2.2.2.2) t.heap ∧ va_D A (wLP E ax bx u.1 u.2.1 u.2.2.1 u.2.2.2.1 u.2.2.2.2.1 u.2.2.2.2.2.1 u.2.2.2.2.2.2.1 u.2.2.2.2.2.2.2.1 u.2.2.2.2.2.2.2.2.1 u.2.2.2.2.2.2.2.2.2.1 u.2.2.2.2.2.2.2.2.2.2.1 u.2.2.2.2.2.2.2.2.2.2.2.1 u.2.2.2.2.2.2.2.2.2.2.2.2.1 u.2.2.2.2.2.2.2.2.2.2.2.2.2)) A) ([.ref (ax 0), .ref (bx 0), .ref (bx 1), .int p0, .int p1, .int p2] : List Value).toArray s 27 864 A) (F0 m 300 ls []) := by
    intro n
    induction n with
    | zero => intro gx_L lt_L mo_L ad_L ln_L PL_L pf_L pw_L pk_L lw_L lk_L ik_L cw_L mw_L x3 x4 x6 x9 x10 hw; exact hw.elim
    | succ n ih =>
      intro gx_L lt_L mo_L ad_L ln_L PL_L pf_L pw_L pk_L lw_L lk_L ik_L cw_L mw_L x3 x4 x6 x9 x10 hw H locs hP hD hS ls hl
      unfold wp_L_isSent_L300 at hw
      refine lv_iload hx hb dL_isSent_300 (lv_at hl 8 rfl) ?_
      refine lv_iload hx hb dL_isSent_302 (lv_at hl 4 rfl) ?_
      refine lv_icmp_ge (tgt := 333) hx hb dL_isSent_304 (by decide) (fun c_1297 => ?_) (fun c_1297 => ?_)
      · have hw := hw.1 c_1297
        refine W.widen (k := 27) (n := 864) (Nat.le_of_ble_eq_true rfl) (Nat.le_of_ble_eq_true rfl) ?_
        obtain ⟨n_1308, hw⟩ := hw
        exact loop_333 n_1308 gx_L lt_L mo_L ad_L ln_L PL_L pf_L pw_L pk_L lw_L lk_L ik_L cw_L mw_L x3 x6 hw _ _ hP hD hS ls (lv_sub hl [0, 1, 2, 3, 5, 6] rfl)
      · have hw := hw.2 c_1297
        refine lv_iload hx hb dL_isSent_307 (lv_at hl 7 rfl) ?_
        refine lv_if_eq (tgt := 333) hx hb dL_isSent_309 (by decide) (fun c_1309 => ?_) (fun c_1309 => ?_)
        · have hw := hw.1 c_1309
          refine W.widen (k := 27) (n := 864) (Nat.le_of_ble_eq_true rfl) (Nat.le_of_ble_eq_true rfl) ?_
          obtain ⟨n_1310, hw⟩ := hw
          exact loop_333 n_1310 gx_L lt_L mo_L ad_L ln_L PL_L pf_L pw_L pk_L lw_L lk_L ik_L cw_L mw_L x3 x6 hw _ _ hP hD hS ls (lv_sub hl [0, 1, 2, 3, 5, 6] rfl)
        · have hw := hw.2 c_1309
          refine lv_aload_n hx hb dL_isSent_312 rfl (lv_at hl 1 rfl) ?_
          refine lv_aload_n hx hb dL_isSent_313 rfl (lv_at hl 2 rfl) ?_
          refine lv_aload_n hx hb dL_isSent_314 rfl (lv_at hl 2 rfl) ?_
          refine lv_iconst (v := 2) hx hb dL_isSent_315 (by decide) ?_
          refine va_iald hx hb hKE.1 hP 8 0 rfl rfl (show vp_in 2 8 from by unfold vp_in; decide) dL_isSent_316 ?_
          refine lv_aload_n hx hb dL_isSent_317 rfl (lv_at hl 2 rfl) ?_
          refine lv_iconst (v := 3) hx hb dL_isSent_318 (by decide) ?_
          refine va_iald hx hb hKE.1 hP 8 0 rfl rfl (show vp_in 3 8 from by unfold vp_in; decide) dL_isSent_319 ?_
          refine lv_aload_n hx hb dL_isSent_320 rfl (lv_at hl 2 rfl) ?_
          refine lv_iconst (v := 4) hx hb dL_isSent_321 (by decide) ?_
          refine va_iald hx hb hKE.1 hP 8 0 rfl rfl (show vp_in 4 8 from by unfold vp_in; decide) dL_isSent_322 ?_
          have hPc : va_P (eD E) vwCl (wCM E bx cw_L mw_L) H := hP.sub [7, 8] rfl
          have hDc : va_D A (wCM E bx cw_L mw_L) := hD.sub [7, 8] (by decide) rfl
          have hFc : ∀ q, va_A (wCM E bx cw_L mw_L) H.size q → A q := va_free hD hS hA [7, 8] rfl
          refine va_calli (va_runS (As := [.ref (bx 0), .ref (bx 1), .int (mw_L (2 : Int32).toNatClampNeg), .int (mw_L (3 : Int32).toNatClampNeg), .int (mw_L (4 : Int32).toNatClampNeg)]) (rest := []) ⟨hx, hb, hml, hown, hta⟩ (c_L_queues E l bx cw_L mw_L (mw_L (2 : Int32).toNatClampNeg) (mw_L (3 : Int32).toNatClampNeg) (mw_L (4 : Int32).toNatClampNeg) H.size _ hw) (pcS (n := 5) hta tw_572 tw_570 tw_0 tw_571 rfl rfl hd_L_queues ⟨Nat.le_of_ble_eq_true rfl, Nat.le_of_ble_eq_true rfl⟩) ⟨fbM, fun U hU hW => ⟨rfl, preM.mk hPc hKE hDc hZ hS hFc hU hW⟩⟩ rfl rfl hl.1 rfl (lv_room (Nat.le_of_ble_eq_true rfl)) dL_isSent_323 ⟨Nat.le_of_ble_eq_true rfl, Nat.le_of_ble_eq_true rfl⟩) hS (fun q _ h => hFc q h) hFc (fun r_1311 u t H locs ht hvm hw hB hz1 hk1 hS => ?_)
          obtain ⟨cw_1312, mw_1313⟩ := u
          obtain ⟨hP1, hD1⟩ := hB
          rw [ht] at hP1
          try dsimp only at hw hP1 hD1
          obtain ⟨hP, hD⟩ := jnI (ws1 := ([((ax 0), .inr (3, [.ref (ax 1), .ref (ax 2), .ref (ax 4), .ref (ax 6), .int (gx_L 4), .int (gx_L 5), .int (gx_L 6), .int (gx_L 7), va_rf lt_L, .int (gx_L 9), .int (gx_L 10), .int (gx_L 11), .int (gx_L 12), .int (gx_L 13), .int (gx_L 14), .int (gx_L 15), .int (gx_L 16), .int (gx_L 17), .int (gx_L 18)])), ((ax 1), .inr (0, [.int mo_L, .ref ad_L, .int ln_L])), ((ax 2), .inr (2, [.ref (ax 3), .int pk_L])), ((ax 3), .inl (eC E 1, 157, .inr (.inl pw_L))), ((ax 4), .inr (2, [.ref (ax 5), .int lk_L])), ((ax 5), .inl (eC E 1, 157, .inr (.inl lw_L))), ((ax 6), .inl (eC E 0, 3, .inl ik_L)), ((bx 0), .inl (eC E 0, 64, .inl cw_1312)), ((bx 1), .inl (eC E 0, 8, .inl mw_1313))] ++ va_pl PL_L pf_L)) hP hD [7, 8] rfl hk1 hP1 rfl (by intro k hk; rcases k with _ | _ | _ | _ | _ | _ | _ | _ | _ | k <;> first | rfl | simp at hk) (by intro j i hj; rcases j with _ | _ | j <;> first | (cases hj; rfl) | cases hj)
          refine lv_pop hx hb dL_isSent_326 rfl ?_
          refine lv_iinc (v := (x10 + 1)) (lv' := [(10, .int (x10 + 1)), (0, .ref (ax 0)), (1, .ref (bx 0)), (2, .ref (bx 1)), (3, .int x3), (4, .int x4), (6, .int x6), (8, .int 1), (9, .int x9)]) hx hb dL_isSent_327 hl (k := 8) rfl rfl (by decide) rfl (fun ls hl => ?_)
          refine lv_goto (tgt := 300) hx hb dL_isSent_330 (by decide) ?_
          exact ih gx_L lt_L mo_L ad_L ln_L PL_L pf_L pw_L pk_L lw_L lk_L ik_L cw_1312 mw_1313 x3 x4 x6 x9 (x10 + 1) hw _ _ hP hD hS ls (lv_sub hl [1, 2, 3, 4, 5, 6, 7, 8, 0] rfl)
  unfold wp_L_isSent at hw
  refine lv_aload_n hx hb dL_isSent_0 rfl (lv_at hl 0 rfl) ?_
  have hPc : va_P (eD E) vwCl (wX E ax gx lt mo ad ln PL pf pw pk lw lk ik) s.heap := hP.part [0, 1, 2, 3, 4, 5, 6] rfl
  refine vp_callSi (va_Run.run (va_runV (As := []) (rest := []) ⟨hx, hb, hml, hown, hta⟩ (c_X2_marksInTheEnd E l ax gx lt mo ad ln PL pf pw pk lw lk ik _ hw) (pcV (n := 0) hta tw_223 tw_220 tw_1 tw_221 tw_222 rfl rfl hd_X2_marksInTheEnd ⟨Nat.le_of_ble_eq_true rfl, Nat.le_of_ble_eq_true rfl⟩) ⟨fbR, va_recv hKE.1 hP (ci := 3) (q0 := 0) rfl rfl, fun U hU hW => ⟨rfl, preR.mk hPc hKE hU hW⟩⟩ rfl rfl hl.1 rfl (lv_room (Nat.le_of_ble_eq_true rfl)) dL_isSent_1 ⟨Nat.le_of_ble_eq_true rfl, Nat.le_of_ble_eq_true rfl⟩)) (fun r_1229 hw => ?_)
  refine lv_istore (lv' := [(6, .int r_1229), (0, .ref (ax 0)), (1, .ref (bx 0)), (2, .ref (bx 1)), (3, .int p0), (4, .int p1), (5, .int p2)]) hx hb dL_isSent_4 hl (by decide) rfl (fun ls hl => ?_)
  refine lv_aload_n hx hb dL_isSent_6 rfl (lv_at hl 3 rfl) ?_
  refine lv_iconst (v := 0) hx hb dL_isSent_7 (by decide) ?_
  refine va_iald hx hb hKE.1 hP 8 0 rfl rfl (show vp_in 0 8 from by unfold vp_in; decide) dL_isSent_8 ?_
  refine lv_bipush (v := 8) hx hb dL_isSent_9 (by decide) ?_
  refine lv_icmp_ge (tgt := 18) hx hb dL_isSent_11 (by decide) (fun c_1230 => ?_) (fun c_1230 => ?_)
  · have hw := hw.1 c_1230
    refine lv_iconst (v := 0) hx hb dL_isSent_18 (by decide) ?_
    refine lv_istore (lv' := [(7, .int 0), (6, .int r_1229), (0, .ref (ax 0)), (1, .ref (bx 0)), (2, .ref (bx 1)), (3, .int p0), (4, .int p1), (5, .int p2)]) hx hb dL_isSent_19 hl (by decide) rfl (fun ls hl => ?_)
    refine lv_iload hx hb dL_isSent_21 (lv_at hl 0 rfl) ?_
    refine lv_if_ne (tgt := 73) hx hb dL_isSent_23 (by decide) (fun c9 => absurd (by decide) c9) (fun _ => ?_)
    refine lv_aload_n hx hb dL_isSent_26 rfl (lv_at hl 2 rfl) ?_
    have hPc : va_P (eD E) vwCl (wX E ax gx lt mo ad ln PL pf pw pk lw lk ik) s.heap := hP.part [0, 1, 2, 3, 4, 5, 6] rfl
    refine vp_callSl (va_Run.run (va_runS (As := [.ref (ax 0)]) (rest := []) ⟨hx, hb, hml, hown, hta⟩ (c_L_all E l ax gx lt mo ad ln PL pf pw pk lw lk ik _ hw) (pcS (n := 1) hta tw_548 tw_546 tw_0 tw_547 rfl rfl hd_L_all ⟨Nat.le_of_ble_eq_true rfl, Nat.le_of_ble_eq_true rfl⟩) ⟨fbR, fun U hU hW => ⟨rfl, preR.mk hPc hKE hU hW⟩⟩ rfl rfl hl.1 rfl (lv_room (Nat.le_of_ble_eq_true rfl)) dL_isSent_27 ⟨Nat.le_of_ble_eq_true rfl, Nat.le_of_ble_eq_true rfl⟩)) (fun r_1231 hw => ?_)
    refine lv_lstore (lv' := [(8, .long r_1231), (7, .int 0), (6, .int r_1229), (0, .ref (ax 0)), (1, .ref (bx 0)), (2, .ref (bx 1)), (3, .int p0), (4, .int p1), (5, .int p2)]) hx hb dL_isSent_30 hl (by decide) rfl (fun ls hl => ?_)
    refine lv_aload_n hx hb dL_isSent_32 rfl (lv_at hl 3 rfl) ?_
    refine lv_iconst (v := 0) hx hb dL_isSent_33 (by decide) ?_
    refine lv_iload_n hx hb dL_isSent_34 rfl (lv_at hl 6 rfl) ?_
    refine lv_iconst (v := 0) hx hb dL_isSent_35 (by decide) ?_
    have hPc : va_P (eD E) vwCl (wX E ax gx lt mo ad ln PL pf pw pk lw lk ik) s.heap := hP.part [0, 1, 2, 3, 4, 5, 6] rfl
    have hDc : va_D A (wX E ax gx lt mo ad ln PL pf pw pk lw lk ik) := hD.part [0, 1, 2, 3, 4, 5, 6] (by decide) rfl
    have hFc : ∀ q, va_A (wX E ax gx lt mo ad ln PL pf pw pk lw lk ik) s.heap.size q → A q := va_freeP hD hS hA [0, 1, 2, 3, 4, 5, 6] rfl
    refine va_calli (vx_runSW (As := [.ref (ax 0), .int 0, .int p0, .int 0]) (rest := []) ⟨hx, hb, hml, hown, hta⟩ (c_L_act E l ax gx lt mo ad ln PL pf pw pk lw lk ik 0 p0 0 s.heap.size _ hw hst) (pcSW (n := 4) hta tw_231 tw_229 tw_0 tw_230 rfl rfl hd_L_act ⟨Nat.le_of_ble_eq_true rfl, Nat.le_of_ble_eq_true rfl⟩) ⟨fbM, fun U hU hW => ⟨rfl, preM.mk hPc hKE hDc hZ hS hFc hU hW⟩⟩ rfl rfl hl.1 rfl (lv_room (Nat.le_of_ble_eq_true rfl)) dL_isSent_36 ⟨Nat.le_of_ble_eq_true rfl, Nat.le_of_ble_eq_true rfl⟩) hS (fun q _ h => hFc q h) hFc (fun r_1232 u t H locs ht hvm hw hB hz1 hk1 hS => ?_)
    obtain ⟨gx_1233, lt_1234, mo_1235, ad_1236, ln_1237, PL_1238, pf_1239, pw_1240, pk_1241, lw_1242, lk_1243, ik_1244⟩ := u
    obtain ⟨hP1, hD1⟩ := hB
    rw [ht] at hP1
    try dsimp only at hw hP1 hD1
    obtain ⟨hP, hD⟩ := va_joinP (wr := [((bx 0), .inl (eC E 0, 64, .inl cw)), ((bx 1), .inl (eC E 0, 8, .inl mw))]) (rx := [((ax 0), .inr (3, [.ref (ax 1), .ref (ax 2), .ref (ax 4), .ref (ax 6), .int (gx_1233 4), .int (gx_1233 5), .int (gx_1233 6), .int (gx_1233 7), va_rf lt_1234, .int (gx_1233 9), .int (gx_1233 10), .int (gx_1233 11), .int (gx_1233 12), .int (gx_1233 13), .int (gx_1233 14), .int (gx_1233 15), .int (gx_1233 16), .int (gx_1233 17), .int (gx_1233 18)])), ((ax 1), .inr (0, [.int mo_1235, .ref ad_1236, .int ln_1237])), ((ax 2), .inr (2, [.ref (ax 3), .int pk_1241])), ((ax 3), .inl (eC E 1, 157, .inr (.inl pw_1240))), ((ax 4), .inr (2, [.ref (ax 5), .int lk_1243])), ((ax 5), .inl (eC E 1, 157, .inr (.inl lw_1242))), ((ax 6), .inl (eC E 0, 3, .inl ik_1244))]) (pl1 := va_pl PL_1238 pf_1239) hP hD [0, 1, 2, 3, 4, 5, 6] [7, 8] rfl rfl (by decide) (by decide) hk1 hFc hP1 hD1
    have hP : va_P (eD E) vwCl ([((ax 0), .inr (3, [.ref (ax 1), .ref (ax 2), .ref (ax 4), .ref (ax 6), .int (gx_1233 4), .int (gx_1233 5), .int (gx_1233 6), .int (gx_1233 7), va_rf lt_1234, .int (gx_1233 9), .int (gx_1233 10), .int (gx_1233 11), .int (gx_1233 12), .int (gx_1233 13), .int (gx_1233 14), .int (gx_1233 15), .int (gx_1233 16), .int (gx_1233 17), .int (gx_1233 18)])), ((ax 1), .inr (0, [.int mo_1235, .ref ad_1236, .int ln_1237])), ((ax 2), .inr (2, [.ref (ax 3), .int pk_1241])), ((ax 3), .inl (eC E 1, 157, .inr (.inl pw_1240))), ((ax 4), .inr (2, [.ref (ax 5), .int lk_1243])), ((ax 5), .inl (eC E 1, 157, .inr (.inl lw_1242))), ((ax 6), .inl (eC E 0, 3, .inl ik_1244)), ((bx 0), .inl (eC E 0, 64, .inl cw)), ((bx 1), .inl (eC E 0, 8, .inl mw))] ++ va_pl PL_1238 pf_1239) H := hP.part [2, 3, 4, 5, 6, 7, 8, 0, 1] rfl
    have hD : va_D A ([((ax 0), .inr (3, [.ref (ax 1), .ref (ax 2), .ref (ax 4), .ref (ax 6), .int (gx_1233 4), .int (gx_1233 5), .int (gx_1233 6), .int (gx_1233 7), va_rf lt_1234, .int (gx_1233 9), .int (gx_1233 10), .int (gx_1233 11), .int (gx_1233 12), .int (gx_1233 13), .int (gx_1233 14), .int (gx_1233 15), .int (gx_1233 16), .int (gx_1233 17), .int (gx_1233 18)])), ((ax 1), .inr (0, [.int mo_1235, .ref ad_1236, .int ln_1237])), ((ax 2), .inr (2, [.ref (ax 3), .int pk_1241])), ((ax 3), .inl (eC E 1, 157, .inr (.inl pw_1240))), ((ax 4), .inr (2, [.ref (ax 5), .int lk_1243])), ((ax 5), .inl (eC E 1, 157, .inr (.inl lw_1242))), ((ax 6), .inl (eC E 0, 3, .inl ik_1244)), ((bx 0), .inl (eC E 0, 64, .inl cw)), ((bx 1), .inl (eC E 0, 8, .inl mw))] ++ va_pl PL_1238 pf_1239) := hD.part [2, 3, 4, 5, 6, 7, 8, 0, 1] (by decide) rfl
    refine lv_if_ne (tgt := 71) hx hb dL_isSent_39 (by decide) (fun c_1245 => ?_) (fun c_1245 => ?_)
    · have hw := hw.2 c_1245
      exact hw.elim
    · have hw := hw.1 c_1245
      refine lv_aload_n hx hb dL_isSent_42 rfl (lv_at hl 3 rfl) ?_
      refine lv_iconst (v := 0) hx hb dL_isSent_43 (by decide) ?_
      refine lv_iload hx hb dL_isSent_44 (lv_at hl 7 rfl) ?_
      refine lv_sipush (v := 255) hx hb dL_isSent_46 (by decide) ?_
      refine lv_iand hx hb dL_isSent_49 ?_
      refine lv_iconst (v := 0) hx hb dL_isSent_50 (by decide) ?_
      have hPc : va_P (eD E) vwCl (wX E ax gx_1233 lt_1234 mo_1235 ad_1236 ln_1237 PL_1238 pf_1239 pw_1240 pk_1241 lw_1242 lk_1243 ik_1244) H := hP.part [0, 1, 2, 3, 4, 5, 6] rfl
      have hDc : va_D A (wX E ax gx_1233 lt_1234 mo_1235 ad_1236 ln_1237 PL_1238 pf_1239 pw_1240 pk_1241 lw_1242 lk_1243 ik_1244) := hD.part [0, 1, 2, 3, 4, 5, 6] (by decide) rfl
      have hFc : ∀ q, va_A (wX E ax gx_1233 lt_1234 mo_1235 ad_1236 ln_1237 PL_1238 pf_1239 pw_1240 pk_1241 lw_1242 lk_1243 ik_1244) H.size q → A q := va_freeP hD hS hA [0, 1, 2, 3, 4, 5, 6] rfl
      refine va_calli (vx_runSW (As := [.ref (ax 0), .int 0, .int (p1 &&& 255), .int 0]) (rest := []) ⟨hx, hb, hml, hown, hta⟩ (c_L_act E l ax gx_1233 lt_1234 mo_1235 ad_1236 ln_1237 PL_1238 pf_1239 pw_1240 pk_1241 lw_1242 lk_1243 ik_1244 0 (p1 &&& 255) 0 H.size _ hw hst) (pcSW (n := 4) hta tw_231 tw_229 tw_0 tw_230 rfl rfl hd_L_act ⟨Nat.le_of_ble_eq_true rfl, Nat.le_of_ble_eq_true rfl⟩) ⟨fbM, fun U hU hW => ⟨rfl, preM.mk hPc hKE hDc hZ hS hFc hU hW⟩⟩ rfl rfl hl.1 rfl (lv_room (Nat.le_of_ble_eq_true rfl)) dL_isSent_51 ⟨Nat.le_of_ble_eq_true rfl, Nat.le_of_ble_eq_true rfl⟩) hS (fun q _ h => hFc q h) hFc (fun r_1246 u t H locs ht hvm hw hB hz1 hk1 hS => ?_)
      obtain ⟨gx_1247, lt_1248, mo_1249, ad_1250, ln_1251, PL_1252, pf_1253, pw_1254, pk_1255, lw_1256, lk_1257, ik_1258⟩ := u
      obtain ⟨hP1, hD1⟩ := hB
      rw [ht] at hP1
      try dsimp only at hw hP1 hD1
      obtain ⟨hP, hD⟩ := va_joinP (wr := [((bx 0), .inl (eC E 0, 64, .inl cw)), ((bx 1), .inl (eC E 0, 8, .inl mw))]) (rx := [((ax 0), .inr (3, [.ref (ax 1), .ref (ax 2), .ref (ax 4), .ref (ax 6), .int (gx_1247 4), .int (gx_1247 5), .int (gx_1247 6), .int (gx_1247 7), va_rf lt_1248, .int (gx_1247 9), .int (gx_1247 10), .int (gx_1247 11), .int (gx_1247 12), .int (gx_1247 13), .int (gx_1247 14), .int (gx_1247 15), .int (gx_1247 16), .int (gx_1247 17), .int (gx_1247 18)])), ((ax 1), .inr (0, [.int mo_1249, .ref ad_1250, .int ln_1251])), ((ax 2), .inr (2, [.ref (ax 3), .int pk_1255])), ((ax 3), .inl (eC E 1, 157, .inr (.inl pw_1254))), ((ax 4), .inr (2, [.ref (ax 5), .int lk_1257])), ((ax 5), .inl (eC E 1, 157, .inr (.inl lw_1256))), ((ax 6), .inl (eC E 0, 3, .inl ik_1258))]) (pl1 := va_pl PL_1252 pf_1253) hP hD [0, 1, 2, 3, 4, 5, 6] [7, 8] rfl rfl (by decide) (by decide) hk1 hFc hP1 hD1
      have hP : va_P (eD E) vwCl ([((ax 0), .inr (3, [.ref (ax 1), .ref (ax 2), .ref (ax 4), .ref (ax 6), .int (gx_1247 4), .int (gx_1247 5), .int (gx_1247 6), .int (gx_1247 7), va_rf lt_1248, .int (gx_1247 9), .int (gx_1247 10), .int (gx_1247 11), .int (gx_1247 12), .int (gx_1247 13), .int (gx_1247 14), .int (gx_1247 15), .int (gx_1247 16), .int (gx_1247 17), .int (gx_1247 18)])), ((ax 1), .inr (0, [.int mo_1249, .ref ad_1250, .int ln_1251])), ((ax 2), .inr (2, [.ref (ax 3), .int pk_1255])), ((ax 3), .inl (eC E 1, 157, .inr (.inl pw_1254))), ((ax 4), .inr (2, [.ref (ax 5), .int lk_1257])), ((ax 5), .inl (eC E 1, 157, .inr (.inl lw_1256))), ((ax 6), .inl (eC E 0, 3, .inl ik_1258)), ((bx 0), .inl (eC E 0, 64, .inl cw)), ((bx 1), .inl (eC E 0, 8, .inl mw))] ++ va_pl PL_1252 pf_1253) H := hP.part [2, 3, 4, 5, 6, 7, 8, 0, 1] rfl
      have hD : va_D A ([((ax 0), .inr (3, [.ref (ax 1), .ref (ax 2), .ref (ax 4), .ref (ax 6), .int (gx_1247 4), .int (gx_1247 5), .int (gx_1247 6), .int (gx_1247 7), va_rf lt_1248, .int (gx_1247 9), .int (gx_1247 10), .int (gx_1247 11), .int (gx_1247 12), .int (gx_1247 13), .int (gx_1247 14), .int (gx_1247 15), .int (gx_1247 16), .int (gx_1247 17), .int (gx_1247 18)])), ((ax 1), .inr (0, [.int mo_1249, .ref ad_1250, .int ln_1251])), ((ax 2), .inr (2, [.ref (ax 3), .int pk_1255])), ((ax 3), .inl (eC E 1, 157, .inr (.inl pw_1254))), ((ax 4), .inr (2, [.ref (ax 5), .int lk_1257])), ((ax 5), .inl (eC E 1, 157, .inr (.inl lw_1256))), ((ax 6), .inl (eC E 0, 3, .inl ik_1258)), ((bx 0), .inl (eC E 0, 64, .inl cw)), ((bx 1), .inl (eC E 0, 8, .inl mw))] ++ va_pl PL_1252 pf_1253) := hD.part [2, 3, 4, 5, 6, 7, 8, 0, 1] (by decide) rfl
      refine lv_if_ne (tgt := 71) hx hb dL_isSent_54 (by decide) (fun c_1259 => ?_) (fun c_1259 => ?_)
      · have hw := hw.2 c_1259
        exact hw.elim
      · have hw := hw.1 c_1259
        refine lv_aload_n hx hb dL_isSent_57 rfl (lv_at hl 3 rfl) ?_
        have hPc : va_P (eD E) vwCl (wX E ax gx_1247 lt_1248 mo_1249 ad_1250 ln_1251 PL_1252 pf_1253 pw_1254 pk_1255 lw_1256 lk_1257 ik_1258) H := hP.part [0, 1, 2, 3, 4, 5, 6] rfl
        refine vp_callSl (va_Run.run (va_runS (As := [.ref (ax 0)]) (rest := []) ⟨hx, hb, hml, hown, hta⟩ (c_L_all E l ax gx_1247 lt_1248 mo_1249 ad_1250 ln_1251 PL_1252 pf_1253 pw_1254 pk_1255 lw_1256 lk_1257 ik_1258 _ hw) (pcS (n := 1) hta tw_548 tw_546 tw_0 tw_547 rfl rfl hd_L_all ⟨Nat.le_of_ble_eq_true rfl, Nat.le_of_ble_eq_true rfl⟩) ⟨fbR, fun U hU hW => ⟨rfl, preR.mk hPc hKE hU hW⟩⟩ rfl rfl hl.1 rfl (lv_room (Nat.le_of_ble_eq_true rfl)) dL_isSent_58 ⟨Nat.le_of_ble_eq_true rfl, Nat.le_of_ble_eq_true rfl⟩)) (fun r_1260 hw => ?_)
        refine lv_lload hx hb dL_isSent_61 (lv_at hl 0 rfl) ?_
        refine W.lcmp hx hb dL_isSent_63 ?_
        refine lv_if_ne (tgt := 71) hx hb dL_isSent_64 (by decide) (fun c_1261 => ?_) (fun c_1261 => ?_)
        · have hw := hw.2 c_1261
          exact hw.elim
        · have hw := hw.1 c_1261
          refine lv_iconst (v := 1) hx hb dL_isSent_67 (by decide) ?_
          refine lv_goto (tgt := 72) hx hb dL_isSent_68 (by decide) ?_
          have hP9 : va_P (eD E) vwCl (wLP E ax bx gx_1247 lt_1248 mo_1249 ad_1250 ln_1251 PL_1252 pf_1253 pw_1254 pk_1255 lw_1256 lk_1257 ik_1258 cw mw) H := hP
          have hD9 : va_D A (wLP E ax bx gx_1247 lt_1248 mo_1249 ad_1250 ln_1251 PL_1252 pf_1253 pw_1254 pk_1255 lw_1256 lk_1257 ik_1258 cw mw) := hD
          refine W.widen (k := 27) (n := 864) (Nat.le_of_ble_eq_true rfl) (Nat.le_of_ble_eq_true rfl) ?_
          exact W.zret (v := 1) hx hb hr rfl (fun t ht hW => ⟨⟨1, (gx_1247, lt_1248, mo_1249, ad_1250, ln_1251, PL_1252, pf_1253, pw_1254, pk_1255, lw_1256, lk_1257, ik_1258, cw, mw), rfl, hw, ⟨by rw [ht]; exact hP9, hD9⟩⟩, hS.F ht⟩) hS.2.2 dL_isSent_72
  · have hw := hw.2 c_1230
    refine lv_iconst (v := 1) hx hb dL_isSent_14 (by decide) ?_
    refine lv_goto (tgt := 19) hx hb dL_isSent_15 (by decide) ?_
    refine lv_istore (lv' := [(7, .int 1), (6, .int r_1229), (0, .ref (ax 0)), (1, .ref (bx 0)), (2, .ref (bx 1)), (3, .int p0), (4, .int p1), (5, .int p2)]) hx hb dL_isSent_19 hl (by decide) rfl (fun ls hl => ?_)
    refine lv_iload hx hb dL_isSent_21 (lv_at hl 0 rfl) ?_
    refine lv_if_ne (tgt := 73) hx hb dL_isSent_23 (by decide) (fun _ => ?_) (fun c9 => absurd c9 (by decide))
    refine lv_aload_n hx hb dL_isSent_73 rfl (lv_at hl 2 rfl) ?_
    refine lv_iconst (v := 0) hx hb dL_isSent_74 (by decide) ?_
    refine lv_iload_n hx hb dL_isSent_75 rfl (lv_at hl 5 rfl) ?_
    refine lv_iconst (v := 0) hx hb dL_isSent_76 (by decide) ?_
    have hPc : va_P (eD E) vwCl (wX E ax gx lt mo ad ln PL pf pw pk lw lk ik) s.heap := hP.part [0, 1, 2, 3, 4, 5, 6] rfl
    have hDc : va_D A (wX E ax gx lt mo ad ln PL pf pw pk lw lk ik) := hD.part [0, 1, 2, 3, 4, 5, 6] (by decide) rfl
    have hFc : ∀ q, va_A (wX E ax gx lt mo ad ln PL pf pw pk lw lk ik) s.heap.size q → A q := va_freeP hD hS hA [0, 1, 2, 3, 4, 5, 6] rfl
    refine va_calli (vx_runSW (As := [.ref (ax 0), .int 0, .int p0, .int 0]) (rest := []) ⟨hx, hb, hml, hown, hta⟩ (c_L_act E l ax gx lt mo ad ln PL pf pw pk lw lk ik 0 p0 0 s.heap.size _ hw hst) (pcSW (n := 4) hta tw_231 tw_229 tw_0 tw_230 rfl rfl hd_L_act ⟨Nat.le_of_ble_eq_true rfl, Nat.le_of_ble_eq_true rfl⟩) ⟨fbM, fun U hU hW => ⟨rfl, preM.mk hPc hKE hDc hZ hS hFc hU hW⟩⟩ rfl rfl hl.1 rfl (lv_room (Nat.le_of_ble_eq_true rfl)) dL_isSent_77 ⟨Nat.le_of_ble_eq_true rfl, Nat.le_of_ble_eq_true rfl⟩) hS (fun q _ h => hFc q h) hFc (fun r_1262 u t H locs ht hvm hw hB hz1 hk1 hS => ?_)
    obtain ⟨gx_1263, lt_1264, mo_1265, ad_1266, ln_1267, PL_1268, pf_1269, pw_1270, pk_1271, lw_1272, lk_1273, ik_1274⟩ := u
    obtain ⟨hP1, hD1⟩ := hB
    rw [ht] at hP1
    try dsimp only at hw hP1 hD1
    obtain ⟨hP, hD⟩ := va_joinP (wr := [((bx 0), .inl (eC E 0, 64, .inl cw)), ((bx 1), .inl (eC E 0, 8, .inl mw))]) (rx := [((ax 0), .inr (3, [.ref (ax 1), .ref (ax 2), .ref (ax 4), .ref (ax 6), .int (gx_1263 4), .int (gx_1263 5), .int (gx_1263 6), .int (gx_1263 7), va_rf lt_1264, .int (gx_1263 9), .int (gx_1263 10), .int (gx_1263 11), .int (gx_1263 12), .int (gx_1263 13), .int (gx_1263 14), .int (gx_1263 15), .int (gx_1263 16), .int (gx_1263 17), .int (gx_1263 18)])), ((ax 1), .inr (0, [.int mo_1265, .ref ad_1266, .int ln_1267])), ((ax 2), .inr (2, [.ref (ax 3), .int pk_1271])), ((ax 3), .inl (eC E 1, 157, .inr (.inl pw_1270))), ((ax 4), .inr (2, [.ref (ax 5), .int lk_1273])), ((ax 5), .inl (eC E 1, 157, .inr (.inl lw_1272))), ((ax 6), .inl (eC E 0, 3, .inl ik_1274))]) (pl1 := va_pl PL_1268 pf_1269) hP hD [0, 1, 2, 3, 4, 5, 6] [7, 8] rfl rfl (by decide) (by decide) hk1 hFc hP1 hD1
    have hP : va_P (eD E) vwCl ([((ax 0), .inr (3, [.ref (ax 1), .ref (ax 2), .ref (ax 4), .ref (ax 6), .int (gx_1263 4), .int (gx_1263 5), .int (gx_1263 6), .int (gx_1263 7), va_rf lt_1264, .int (gx_1263 9), .int (gx_1263 10), .int (gx_1263 11), .int (gx_1263 12), .int (gx_1263 13), .int (gx_1263 14), .int (gx_1263 15), .int (gx_1263 16), .int (gx_1263 17), .int (gx_1263 18)])), ((ax 1), .inr (0, [.int mo_1265, .ref ad_1266, .int ln_1267])), ((ax 2), .inr (2, [.ref (ax 3), .int pk_1271])), ((ax 3), .inl (eC E 1, 157, .inr (.inl pw_1270))), ((ax 4), .inr (2, [.ref (ax 5), .int lk_1273])), ((ax 5), .inl (eC E 1, 157, .inr (.inl lw_1272))), ((ax 6), .inl (eC E 0, 3, .inl ik_1274)), ((bx 0), .inl (eC E 0, 64, .inl cw)), ((bx 1), .inl (eC E 0, 8, .inl mw))] ++ va_pl PL_1268 pf_1269) H := hP.part [2, 3, 4, 5, 6, 7, 8, 0, 1] rfl
    have hD : va_D A ([((ax 0), .inr (3, [.ref (ax 1), .ref (ax 2), .ref (ax 4), .ref (ax 6), .int (gx_1263 4), .int (gx_1263 5), .int (gx_1263 6), .int (gx_1263 7), va_rf lt_1264, .int (gx_1263 9), .int (gx_1263 10), .int (gx_1263 11), .int (gx_1263 12), .int (gx_1263 13), .int (gx_1263 14), .int (gx_1263 15), .int (gx_1263 16), .int (gx_1263 17), .int (gx_1263 18)])), ((ax 1), .inr (0, [.int mo_1265, .ref ad_1266, .int ln_1267])), ((ax 2), .inr (2, [.ref (ax 3), .int pk_1271])), ((ax 3), .inl (eC E 1, 157, .inr (.inl pw_1270))), ((ax 4), .inr (2, [.ref (ax 5), .int lk_1273])), ((ax 5), .inl (eC E 1, 157, .inr (.inl lw_1272))), ((ax 6), .inl (eC E 0, 3, .inl ik_1274)), ((bx 0), .inl (eC E 0, 64, .inl cw)), ((bx 1), .inl (eC E 0, 8, .inl mw))] ++ va_pl PL_1268 pf_1269) := hD.part [2, 3, 4, 5, 6, 7, 8, 0, 1] (by decide) rfl
    refine lv_iconst (v := 1) hx hb dL_isSent_80 (by decide) ?_
    refine lv_icmp_ne (tgt := 106) hx hb dL_isSent_81 (by decide) (fun c_1275 => ?_) (fun c_1275 => ?_)
    · have hw := hw.2 c_1275
      exact hw.elim
    · have hw := hw.1 c_1275
      refine lv_aload_n hx hb dL_isSent_84 rfl (lv_at hl 2 rfl) ?_
      have hPc : va_P (eD E) vwCl (wX E ax gx_1263 lt_1264 mo_1265 ad_1266 ln_1267 PL_1268 pf_1269 pw_1270 pk_1271 lw_1272 lk_1273 ik_1274) H := hP.part [0, 1, 2, 3, 4, 5, 6] rfl
      refine vp_callSi (va_Run.run (va_runV (As := []) (rest := []) ⟨hx, hb, hml, hown, hta⟩ (c_X2_pending E l ax gx_1263 lt_1264 mo_1265 ad_1266 ln_1267 PL_1268 pf_1269 pw_1270 pk_1271 lw_1272 lk_1273 ik_1274 _ hw) (pcV (n := 0) hta tw_129 tw_126 tw_1 tw_127 tw_128 rfl rfl hd_X2_pending ⟨Nat.le_of_ble_eq_true rfl, Nat.le_of_ble_eq_true rfl⟩) ⟨fbR, va_recv hKE.1 hP (ci := 3) (q0 := 0) rfl rfl, fun U hU hW => ⟨rfl, preR.mk hPc hKE hU hW⟩⟩ rfl rfl hl.1 rfl (lv_room (Nat.le_of_ble_eq_true rfl)) dL_isSent_85 ⟨Nat.le_of_ble_eq_true rfl, Nat.le_of_ble_eq_true rfl⟩)) (fun r_1276 hw => ?_)
      refine lv_iconst (v := 1) hx hb dL_isSent_88 (by decide) ?_
      refine lv_icmp_ne (tgt := 106) hx hb dL_isSent_89 (by decide) (fun c_1277 => ?_) (fun c_1277 => ?_)
      · have hw := hw.2 c_1277
        exact hw.elim
      · have hw := hw.1 c_1277
        refine lv_aload_n hx hb dL_isSent_92 rfl (lv_at hl 2 rfl) ?_
        have hPc : va_P (eD E) vwCl (wX E ax gx_1263 lt_1264 mo_1265 ad_1266 ln_1267 PL_1268 pf_1269 pw_1270 pk_1271 lw_1272 lk_1273 ik_1274) H := hP.part [0, 1, 2, 3, 4, 5, 6] rfl
        refine vp_callSi (va_Run.run (va_runV (As := []) (rest := []) ⟨hx, hb, hml, hown, hta⟩ (c_X2_queued E l ax gx_1263 lt_1264 mo_1265 ad_1266 ln_1267 PL_1268 pf_1269 pw_1270 pk_1271 lw_1272 lk_1273 ik_1274 _ hw) (pcV (n := 0) hta tw_510 tw_507 tw_1 tw_508 tw_509 rfl rfl hd_X2_queued ⟨Nat.le_of_ble_eq_true rfl, Nat.le_of_ble_eq_true rfl⟩) ⟨fbR, va_recv hKE.1 hP (ci := 3) (q0 := 0) rfl rfl, fun U hU hW => ⟨rfl, preR.mk hPc hKE hU hW⟩⟩ rfl rfl hl.1 rfl (lv_room (Nat.le_of_ble_eq_true rfl)) dL_isSent_93 ⟨Nat.le_of_ble_eq_true rfl, Nat.le_of_ble_eq_true rfl⟩)) (fun r_1278 hw => ?_)
        refine lv_aload_n hx hb dL_isSent_96 rfl (lv_at hl 4 rfl) ?_
        refine lv_iconst (v := 0) hx hb dL_isSent_97 (by decide) ?_
        refine va_iald hx hb hKE.1 hP 8 0 rfl rfl (show vp_in 0 8 from by unfold vp_in; decide) dL_isSent_98 ?_
        refine lv_icmp_ne (tgt := 106) hx hb dL_isSent_99 (by decide) (fun c_1279 => ?_) (fun c_1279 => ?_)
        · have hw := hw.2 c_1279
          exact hw.elim
        · have hw := hw.1 c_1279
          refine lv_iconst (v := 1) hx hb dL_isSent_102 (by decide) ?_
          refine lv_goto (tgt := 107) hx hb dL_isSent_103 (by decide) ?_
          refine lv_istore (lv' := [(8, .int 1), (7, .int 1), (6, .int r_1229), (0, .ref (ax 0)), (1, .ref (bx 0)), (2, .ref (bx 1)), (3, .int p0), (4, .int p1), (5, .int p2)]) hx hb dL_isSent_107 hl (by decide) rfl (fun ls hl => ?_)
          refine lv_iload_n hx hb dL_isSent_109 rfl (lv_at hl 6 rfl) ?_
          refine lv_iconst (v := 3) hx hb dL_isSent_110 (by decide) ?_
          refine lv_icmp_ge (tgt := 206) hx hb dL_isSent_111 (by decide) (fun c_1280 => ?_) (fun c_1280 => ?_)
          · have hw := hw.1 c_1280
            refine lv_iload hx hb dL_isSent_206 (lv_at hl 0 rfl) ?_
            refine lv_if_eq (tgt := 231) hx hb dL_isSent_208 (by decide) (fun c9 => absurd c9 (by decide)) (fun _ => ?_)
            refine lv_aload_n hx hb dL_isSent_211 rfl (lv_at hl 3 rfl) ?_
            refine lv_iconst (v := 0) hx hb dL_isSent_212 (by decide) ?_
            refine lv_iload hx hb dL_isSent_213 (lv_at hl 7 rfl) ?_
            refine lv_sipush (v := 255) hx hb dL_isSent_215 (by decide) ?_
            refine lv_iand hx hb dL_isSent_218 ?_
            refine lv_iconst (v := 0) hx hb dL_isSent_219 (by decide) ?_
            have hPc : va_P (eD E) vwCl (wX E ax gx_1263 lt_1264 mo_1265 ad_1266 ln_1267 PL_1268 pf_1269 pw_1270 pk_1271 lw_1272 lk_1273 ik_1274) H := hP.part [0, 1, 2, 3, 4, 5, 6] rfl
            have hDc : va_D A (wX E ax gx_1263 lt_1264 mo_1265 ad_1266 ln_1267 PL_1268 pf_1269 pw_1270 pk_1271 lw_1272 lk_1273 ik_1274) := hD.part [0, 1, 2, 3, 4, 5, 6] (by decide) rfl
            have hFc : ∀ q, va_A (wX E ax gx_1263 lt_1264 mo_1265 ad_1266 ln_1267 PL_1268 pf_1269 pw_1270 pk_1271 lw_1272 lk_1273 ik_1274) H.size q → A q := va_freeP hD hS hA [0, 1, 2, 3, 4, 5, 6] rfl
            refine va_calli (vx_runSW (As := [.ref (ax 0), .int 0, .int (p1 &&& 255), .int 0]) (rest := []) ⟨hx, hb, hml, hown, hta⟩ (c_L_act E l ax gx_1263 lt_1264 mo_1265 ad_1266 ln_1267 PL_1268 pf_1269 pw_1270 pk_1271 lw_1272 lk_1273 ik_1274 0 (p1 &&& 255) 0 H.size _ hw hst) (pcSW (n := 4) hta tw_231 tw_229 tw_0 tw_230 rfl rfl hd_L_act ⟨Nat.le_of_ble_eq_true rfl, Nat.le_of_ble_eq_true rfl⟩) ⟨fbM, fun U hU hW => ⟨rfl, preM.mk hPc hKE hDc hZ hS hFc hU hW⟩⟩ rfl rfl hl.1 rfl (lv_room (Nat.le_of_ble_eq_true rfl)) dL_isSent_220 ⟨Nat.le_of_ble_eq_true rfl, Nat.le_of_ble_eq_true rfl⟩) hS (fun q _ h => hFc q h) hFc (fun r_1281 u t H locs ht hvm hw hB hz1 hk1 hS => ?_)
            obtain ⟨gx_1282, lt_1283, mo_1284, ad_1285, ln_1286, PL_1287, pf_1288, pw_1289, pk_1290, lw_1291, lk_1292, ik_1293⟩ := u
            obtain ⟨hP1, hD1⟩ := hB
            rw [ht] at hP1
            try dsimp only at hw hP1 hD1
            obtain ⟨hP, hD⟩ := va_joinP (wr := [((bx 0), .inl (eC E 0, 64, .inl cw)), ((bx 1), .inl (eC E 0, 8, .inl mw))]) (rx := [((ax 0), .inr (3, [.ref (ax 1), .ref (ax 2), .ref (ax 4), .ref (ax 6), .int (gx_1282 4), .int (gx_1282 5), .int (gx_1282 6), .int (gx_1282 7), va_rf lt_1283, .int (gx_1282 9), .int (gx_1282 10), .int (gx_1282 11), .int (gx_1282 12), .int (gx_1282 13), .int (gx_1282 14), .int (gx_1282 15), .int (gx_1282 16), .int (gx_1282 17), .int (gx_1282 18)])), ((ax 1), .inr (0, [.int mo_1284, .ref ad_1285, .int ln_1286])), ((ax 2), .inr (2, [.ref (ax 3), .int pk_1290])), ((ax 3), .inl (eC E 1, 157, .inr (.inl pw_1289))), ((ax 4), .inr (2, [.ref (ax 5), .int lk_1292])), ((ax 5), .inl (eC E 1, 157, .inr (.inl lw_1291))), ((ax 6), .inl (eC E 0, 3, .inl ik_1293))]) (pl1 := va_pl PL_1287 pf_1288) hP hD [0, 1, 2, 3, 4, 5, 6] [7, 8] rfl rfl (by decide) (by decide) hk1 hFc hP1 hD1
            have hP : va_P (eD E) vwCl ([((ax 0), .inr (3, [.ref (ax 1), .ref (ax 2), .ref (ax 4), .ref (ax 6), .int (gx_1282 4), .int (gx_1282 5), .int (gx_1282 6), .int (gx_1282 7), va_rf lt_1283, .int (gx_1282 9), .int (gx_1282 10), .int (gx_1282 11), .int (gx_1282 12), .int (gx_1282 13), .int (gx_1282 14), .int (gx_1282 15), .int (gx_1282 16), .int (gx_1282 17), .int (gx_1282 18)])), ((ax 1), .inr (0, [.int mo_1284, .ref ad_1285, .int ln_1286])), ((ax 2), .inr (2, [.ref (ax 3), .int pk_1290])), ((ax 3), .inl (eC E 1, 157, .inr (.inl pw_1289))), ((ax 4), .inr (2, [.ref (ax 5), .int lk_1292])), ((ax 5), .inl (eC E 1, 157, .inr (.inl lw_1291))), ((ax 6), .inl (eC E 0, 3, .inl ik_1293)), ((bx 0), .inl (eC E 0, 64, .inl cw)), ((bx 1), .inl (eC E 0, 8, .inl mw))] ++ va_pl PL_1287 pf_1288) H := hP.part [2, 3, 4, 5, 6, 7, 8, 0, 1] rfl
            have hD : va_D A ([((ax 0), .inr (3, [.ref (ax 1), .ref (ax 2), .ref (ax 4), .ref (ax 6), .int (gx_1282 4), .int (gx_1282 5), .int (gx_1282 6), .int (gx_1282 7), va_rf lt_1283, .int (gx_1282 9), .int (gx_1282 10), .int (gx_1282 11), .int (gx_1282 12), .int (gx_1282 13), .int (gx_1282 14), .int (gx_1282 15), .int (gx_1282 16), .int (gx_1282 17), .int (gx_1282 18)])), ((ax 1), .inr (0, [.int mo_1284, .ref ad_1285, .int ln_1286])), ((ax 2), .inr (2, [.ref (ax 3), .int pk_1290])), ((ax 3), .inl (eC E 1, 157, .inr (.inl pw_1289))), ((ax 4), .inr (2, [.ref (ax 5), .int lk_1292])), ((ax 5), .inl (eC E 1, 157, .inr (.inl lw_1291))), ((ax 6), .inl (eC E 0, 3, .inl ik_1293)), ((bx 0), .inl (eC E 0, 64, .inl cw)), ((bx 1), .inl (eC E 0, 8, .inl mw))] ++ va_pl PL_1287 pf_1288) := hD.part [2, 3, 4, 5, 6, 7, 8, 0, 1] (by decide) rfl
            refine lv_iconst (v := 1) hx hb dL_isSent_223 (by decide) ?_
            refine lv_icmp_ne (tgt := 231) hx hb dL_isSent_224 (by decide) (fun c_1294 => ?_) (fun c_1294 => ?_)
            · have hw := hw.2 c_1294
              exact hw.elim
            · have hw := hw.1 c_1294
              refine lv_iconst (v := 1) hx hb dL_isSent_227 (by decide) ?_
              refine lv_goto (tgt := 232) hx hb dL_isSent_228 (by decide) ?_
              refine lv_istore (lv' := [(8, .int 1), (7, .int 1), (6, .int r_1229), (0, .ref (ax 0)), (1, .ref (bx 0)), (2, .ref (bx 1)), (3, .int p0), (4, .int p1), (5, .int p2)]) hx hb dL_isSent_232 hl (by decide) rfl (fun ls hl => ?_)
              refine lv_iload_n hx hb dL_isSent_234 rfl (lv_at hl 6 rfl) ?_
              refine lv_iconst (v := 3) hx hb dL_isSent_235 (by decide) ?_
              refine lv_icmp_ne (tgt := 256) hx hb dL_isSent_236 (by decide) (fun c_1295 => ?_) (fun c_1295 => ?_)
              · have hw := hw.2 c_1295
                refine lv_iload hx hb dL_isSent_256 (lv_at hl 7 rfl) ?_
                refine lv_if_le (tgt := 278) hx hb dL_isSent_258 (by decide) (fun c_1296 => ?_) (fun c_1296 => ?_)
                · have hw := hw.1 c_1296
                  refine lv_iconst (v := 0) hx hb dL_isSent_278 (by decide) ?_
                  refine lv_istore (lv' := [(9, .int 0), (8, .int 1), (7, .int 1), (6, .int r_1229), (0, .ref (ax 0)), (1, .ref (bx 0)), (2, .ref (bx 1)), (3, .int p0), (4, .int p1), (5, .int p2)]) hx hb dL_isSent_279 hl (by decide) rfl (fun ls hl => ?_)
                  refine lv_aload_n hx hb dL_isSent_281 rfl (lv_at hl 6 rfl) ?_
                  refine lv_iconst (v := 1) hx hb dL_isSent_282 (by decide) ?_
                  refine lv_dup2_11 hx hb dL_isSent_283 rfl rfl ?_
                  refine va_iald hx hb hKE.1 hP 8 0 rfl rfl (show vp_in 1 8 from by unfold vp_in; decide) dL_isSent_284 ?_
                  refine lv_iload hx hb dL_isSent_285 (lv_at hl 0 rfl) ?_
                  refine lv_if_eq (tgt := 294) hx hb dL_isSent_287 (by decide) (fun _ => ?_) (fun c9 => absurd (by decide) c9)
                  refine lv_iconst (v := 1) hx hb dL_isSent_294 (by decide) ?_
                  refine lv_iadd hx hb dL_isSent_295 ?_
                  refine va_iast hx hb hKE.1 hP hD hS 8 0 rfl rfl (show vp_in 1 8 from by unfold vp_in; decide) dL_isSent_296 (fun H locs hP hD hS => ?_)
                  have hP : va_P (eD E) vwCl ([((ax 0), .inr (3, [.ref (ax 1), .ref (ax 2), .ref (ax 4), .ref (ax 6), .int (gx_1282 4), .int (gx_1282 5), .int (gx_1282 6), .int (gx_1282 7), va_rf lt_1283, .int (gx_1282 9), .int (gx_1282 10), .int (gx_1282 11), .int (gx_1282 12), .int (gx_1282 13), .int (gx_1282 14), .int (gx_1282 15), .int (gx_1282 16), .int (gx_1282 17), .int (gx_1282 18)])), ((ax 1), .inr (0, [.int mo_1284, .ref ad_1285, .int ln_1286])), ((ax 2), .inr (2, [.ref (ax 3), .int pk_1290])), ((ax 3), .inl (eC E 1, 157, .inr (.inl pw_1289))), ((ax 4), .inr (2, [.ref (ax 5), .int lk_1292])), ((ax 5), .inl (eC E 1, 157, .inr (.inl lw_1291))), ((ax 6), .inl (eC E 0, 3, .inl ik_1293)), ((bx 0), .inl (eC E 0, 64, .inl cw)), ((bx 1), .inl (eC E 0, 8, .inl (upd mw (1 : Int32).toNatClampNeg ((mw (1 : Int32).toNatClampNeg) + 1))))] ++ va_pl PL_1287 pf_1288) H := hP
                  have hD : va_D A ([((ax 0), .inr (3, [.ref (ax 1), .ref (ax 2), .ref (ax 4), .ref (ax 6), .int (gx_1282 4), .int (gx_1282 5), .int (gx_1282 6), .int (gx_1282 7), va_rf lt_1283, .int (gx_1282 9), .int (gx_1282 10), .int (gx_1282 11), .int (gx_1282 12), .int (gx_1282 13), .int (gx_1282 14), .int (gx_1282 15), .int (gx_1282 16), .int (gx_1282 17), .int (gx_1282 18)])), ((ax 1), .inr (0, [.int mo_1284, .ref ad_1285, .int ln_1286])), ((ax 2), .inr (2, [.ref (ax 3), .int pk_1290])), ((ax 3), .inl (eC E 1, 157, .inr (.inl pw_1289))), ((ax 4), .inr (2, [.ref (ax 5), .int lk_1292])), ((ax 5), .inl (eC E 1, 157, .inr (.inl lw_1291))), ((ax 6), .inl (eC E 0, 3, .inl ik_1293)), ((bx 0), .inl (eC E 0, 64, .inl cw)), ((bx 1), .inl (eC E 0, 8, .inl (upd mw (1 : Int32).toNatClampNeg ((mw (1 : Int32).toNatClampNeg) + 1))))] ++ va_pl PL_1287 pf_1288) := hD
                  refine lv_iconst (v := 0) hx hb dL_isSent_297 (by decide) ?_
                  refine lv_istore (lv' := [(10, .int 0), (9, .int 0), (8, .int 1), (7, .int 1), (6, .int r_1229), (0, .ref (ax 0)), (1, .ref (bx 0)), (2, .ref (bx 1)), (3, .int p0), (4, .int p1), (5, .int p2)]) hx hb dL_isSent_298 hl (by decide) rfl (fun ls hl => ?_)
                  obtain ⟨n_1314, hw⟩ := hw
                  exact loop_300 n_1314 gx_1282 lt_1283 mo_1284 ad_1285 ln_1286 PL_1287 pf_1288 pw_1289 pk_1290 lw_1291 lk_1292 ik_1293 cw (upd mw (1 : Int32).toNatClampNeg ((mw (1 : Int32).toNatClampNeg) + 1)) p0 p1 r_1229 0 0 hw _ _ hP hD hS ls (lv_sub hl [5, 6, 7, 8, 9, 4, 2, 1, 0] rfl)
                · have hw := hw.2 c_1296
                  refine lv_iload hx hb dL_isSent_261 (lv_at hl 7 rfl) ?_
                  refine lv_bipush (v := 10) hx hb dL_isSent_263 (by decide) ?_
                  refine lv_icmp_ge (tgt := 278) hx hb dL_isSent_265 (by decide) (fun c_1315 => ?_) (fun c_1315 => ?_)
                  · have hw := hw.1 c_1315
                    refine lv_iconst (v := 0) hx hb dL_isSent_278 (by decide) ?_
                    refine lv_istore (lv' := [(9, .int 0), (8, .int 1), (7, .int 1), (6, .int r_1229), (0, .ref (ax 0)), (1, .ref (bx 0)), (2, .ref (bx 1)), (3, .int p0), (4, .int p1), (5, .int p2)]) hx hb dL_isSent_279 hl (by decide) rfl (fun ls hl => ?_)
                    refine lv_aload_n hx hb dL_isSent_281 rfl (lv_at hl 6 rfl) ?_
                    refine lv_iconst (v := 1) hx hb dL_isSent_282 (by decide) ?_
                    refine lv_dup2_11 hx hb dL_isSent_283 rfl rfl ?_
                    refine va_iald hx hb hKE.1 hP 8 0 rfl rfl (show vp_in 1 8 from by unfold vp_in; decide) dL_isSent_284 ?_
                    refine lv_iload hx hb dL_isSent_285 (lv_at hl 0 rfl) ?_
                    refine lv_if_eq (tgt := 294) hx hb dL_isSent_287 (by decide) (fun _ => ?_) (fun c9 => absurd (by decide) c9)
                    refine lv_iconst (v := 1) hx hb dL_isSent_294 (by decide) ?_
                    refine lv_iadd hx hb dL_isSent_295 ?_
                    refine va_iast hx hb hKE.1 hP hD hS 8 0 rfl rfl (show vp_in 1 8 from by unfold vp_in; decide) dL_isSent_296 (fun H locs hP hD hS => ?_)
                    have hP : va_P (eD E) vwCl ([((ax 0), .inr (3, [.ref (ax 1), .ref (ax 2), .ref (ax 4), .ref (ax 6), .int (gx_1282 4), .int (gx_1282 5), .int (gx_1282 6), .int (gx_1282 7), va_rf lt_1283, .int (gx_1282 9), .int (gx_1282 10), .int (gx_1282 11), .int (gx_1282 12), .int (gx_1282 13), .int (gx_1282 14), .int (gx_1282 15), .int (gx_1282 16), .int (gx_1282 17), .int (gx_1282 18)])), ((ax 1), .inr (0, [.int mo_1284, .ref ad_1285, .int ln_1286])), ((ax 2), .inr (2, [.ref (ax 3), .int pk_1290])), ((ax 3), .inl (eC E 1, 157, .inr (.inl pw_1289))), ((ax 4), .inr (2, [.ref (ax 5), .int lk_1292])), ((ax 5), .inl (eC E 1, 157, .inr (.inl lw_1291))), ((ax 6), .inl (eC E 0, 3, .inl ik_1293)), ((bx 0), .inl (eC E 0, 64, .inl cw)), ((bx 1), .inl (eC E 0, 8, .inl (upd mw (1 : Int32).toNatClampNeg ((mw (1 : Int32).toNatClampNeg) + 1))))] ++ va_pl PL_1287 pf_1288) H := hP
                    have hD : va_D A ([((ax 0), .inr (3, [.ref (ax 1), .ref (ax 2), .ref (ax 4), .ref (ax 6), .int (gx_1282 4), .int (gx_1282 5), .int (gx_1282 6), .int (gx_1282 7), va_rf lt_1283, .int (gx_1282 9), .int (gx_1282 10), .int (gx_1282 11), .int (gx_1282 12), .int (gx_1282 13), .int (gx_1282 14), .int (gx_1282 15), .int (gx_1282 16), .int (gx_1282 17), .int (gx_1282 18)])), ((ax 1), .inr (0, [.int mo_1284, .ref ad_1285, .int ln_1286])), ((ax 2), .inr (2, [.ref (ax 3), .int pk_1290])), ((ax 3), .inl (eC E 1, 157, .inr (.inl pw_1289))), ((ax 4), .inr (2, [.ref (ax 5), .int lk_1292])), ((ax 5), .inl (eC E 1, 157, .inr (.inl lw_1291))), ((ax 6), .inl (eC E 0, 3, .inl ik_1293)), ((bx 0), .inl (eC E 0, 64, .inl cw)), ((bx 1), .inl (eC E 0, 8, .inl (upd mw (1 : Int32).toNatClampNeg ((mw (1 : Int32).toNatClampNeg) + 1))))] ++ va_pl PL_1287 pf_1288) := hD
                    refine lv_iconst (v := 0) hx hb dL_isSent_297 (by decide) ?_
                    refine lv_istore (lv' := [(10, .int 0), (9, .int 0), (8, .int 1), (7, .int 1), (6, .int r_1229), (0, .ref (ax 0)), (1, .ref (bx 0)), (2, .ref (bx 1)), (3, .int p0), (4, .int p1), (5, .int p2)]) hx hb dL_isSent_298 hl (by decide) rfl (fun ls hl => ?_)
                    obtain ⟨n_1316, hw⟩ := hw
                    exact loop_300 n_1316 gx_1282 lt_1283 mo_1284 ad_1285 ln_1286 PL_1287 pf_1288 pw_1289 pk_1290 lw_1291 lk_1292 ik_1293 cw (upd mw (1 : Int32).toNatClampNeg ((mw (1 : Int32).toNatClampNeg) + 1)) p0 p1 r_1229 0 0 hw _ _ hP hD hS ls (lv_sub hl [5, 6, 7, 8, 9, 4, 2, 1, 0] rfl)
                  · have hw := hw.2 c_1315
                    refine lv_aload_n hx hb dL_isSent_268 rfl (lv_at hl 5 rfl) ?_
                    refine lv_iconst (v := 2) hx hb dL_isSent_269 (by decide) ?_
                    refine va_iald hx hb hKE.1 hP 8 0 rfl rfl (show vp_in 2 8 from by unfold vp_in; decide) dL_isSent_270 ?_
                    refine lv_if_le (tgt := 278) hx hb dL_isSent_271 (by decide) (fun c_1317 => ?_) (fun c_1317 => ?_)
                    · have hw := hw.1 c_1317
                      refine lv_iconst (v := 0) hx hb dL_isSent_278 (by decide) ?_
                      refine lv_istore (lv' := [(9, .int 0), (8, .int 1), (7, .int 1), (6, .int r_1229), (0, .ref (ax 0)), (1, .ref (bx 0)), (2, .ref (bx 1)), (3, .int p0), (4, .int p1), (5, .int p2)]) hx hb dL_isSent_279 hl (by decide) rfl (fun ls hl => ?_)
                      refine lv_aload_n hx hb dL_isSent_281 rfl (lv_at hl 6 rfl) ?_
                      refine lv_iconst (v := 1) hx hb dL_isSent_282 (by decide) ?_
                      refine lv_dup2_11 hx hb dL_isSent_283 rfl rfl ?_
                      refine va_iald hx hb hKE.1 hP 8 0 rfl rfl (show vp_in 1 8 from by unfold vp_in; decide) dL_isSent_284 ?_
                      refine lv_iload hx hb dL_isSent_285 (lv_at hl 0 rfl) ?_
                      refine lv_if_eq (tgt := 294) hx hb dL_isSent_287 (by decide) (fun _ => ?_) (fun c9 => absurd (by decide) c9)
                      refine lv_iconst (v := 1) hx hb dL_isSent_294 (by decide) ?_
                      refine lv_iadd hx hb dL_isSent_295 ?_
                      refine va_iast hx hb hKE.1 hP hD hS 8 0 rfl rfl (show vp_in 1 8 from by unfold vp_in; decide) dL_isSent_296 (fun H locs hP hD hS => ?_)
                      have hP : va_P (eD E) vwCl ([((ax 0), .inr (3, [.ref (ax 1), .ref (ax 2), .ref (ax 4), .ref (ax 6), .int (gx_1282 4), .int (gx_1282 5), .int (gx_1282 6), .int (gx_1282 7), va_rf lt_1283, .int (gx_1282 9), .int (gx_1282 10), .int (gx_1282 11), .int (gx_1282 12), .int (gx_1282 13), .int (gx_1282 14), .int (gx_1282 15), .int (gx_1282 16), .int (gx_1282 17), .int (gx_1282 18)])), ((ax 1), .inr (0, [.int mo_1284, .ref ad_1285, .int ln_1286])), ((ax 2), .inr (2, [.ref (ax 3), .int pk_1290])), ((ax 3), .inl (eC E 1, 157, .inr (.inl pw_1289))), ((ax 4), .inr (2, [.ref (ax 5), .int lk_1292])), ((ax 5), .inl (eC E 1, 157, .inr (.inl lw_1291))), ((ax 6), .inl (eC E 0, 3, .inl ik_1293)), ((bx 0), .inl (eC E 0, 64, .inl cw)), ((bx 1), .inl (eC E 0, 8, .inl (upd mw (1 : Int32).toNatClampNeg ((mw (1 : Int32).toNatClampNeg) + 1))))] ++ va_pl PL_1287 pf_1288) H := hP
                      have hD : va_D A ([((ax 0), .inr (3, [.ref (ax 1), .ref (ax 2), .ref (ax 4), .ref (ax 6), .int (gx_1282 4), .int (gx_1282 5), .int (gx_1282 6), .int (gx_1282 7), va_rf lt_1283, .int (gx_1282 9), .int (gx_1282 10), .int (gx_1282 11), .int (gx_1282 12), .int (gx_1282 13), .int (gx_1282 14), .int (gx_1282 15), .int (gx_1282 16), .int (gx_1282 17), .int (gx_1282 18)])), ((ax 1), .inr (0, [.int mo_1284, .ref ad_1285, .int ln_1286])), ((ax 2), .inr (2, [.ref (ax 3), .int pk_1290])), ((ax 3), .inl (eC E 1, 157, .inr (.inl pw_1289))), ((ax 4), .inr (2, [.ref (ax 5), .int lk_1292])), ((ax 5), .inl (eC E 1, 157, .inr (.inl lw_1291))), ((ax 6), .inl (eC E 0, 3, .inl ik_1293)), ((bx 0), .inl (eC E 0, 64, .inl cw)), ((bx 1), .inl (eC E 0, 8, .inl (upd mw (1 : Int32).toNatClampNeg ((mw (1 : Int32).toNatClampNeg) + 1))))] ++ va_pl PL_1287 pf_1288) := hD
                      refine lv_iconst (v := 0) hx hb dL_isSent_297 (by decide) ?_
                      refine lv_istore (lv' := [(10, .int 0), (9, .int 0), (8, .int 1), (7, .int 1), (6, .int r_1229), (0, .ref (ax 0)), (1, .ref (bx 0)), (2, .ref (bx 1)), (3, .int p0), (4, .int p1), (5, .int p2)]) hx hb dL_isSent_298 hl (by decide) rfl (fun ls hl => ?_)
                      obtain ⟨n_1318, hw⟩ := hw
                      exact loop_300 n_1318 gx_1282 lt_1283 mo_1284 ad_1285 ln_1286 PL_1287 pf_1288 pw_1289 pk_1290 lw_1291 lk_1292 ik_1293 cw (upd mw (1 : Int32).toNatClampNeg ((mw (1 : Int32).toNatClampNeg) + 1)) p0 p1 r_1229 0 0 hw _ _ hP hD hS ls (lv_sub hl [5, 6, 7, 8, 9, 4, 2, 1, 0] rfl)
                    · have hw := hw.2 c_1317
                      refine lv_iconst (v := 1) hx hb dL_isSent_274 (by decide) ?_
                      refine lv_goto (tgt := 279) hx hb dL_isSent_275 (by decide) ?_
                      refine lv_istore (lv' := [(9, .int 1), (8, .int 1), (7, .int 1), (6, .int r_1229), (0, .ref (ax 0)), (1, .ref (bx 0)), (2, .ref (bx 1)), (3, .int p0), (4, .int p1), (5, .int p2)]) hx hb dL_isSent_279 hl (by decide) rfl (fun ls hl => ?_)
                      refine lv_aload_n hx hb dL_isSent_281 rfl (lv_at hl 6 rfl) ?_
                      refine lv_iconst (v := 1) hx hb dL_isSent_282 (by decide) ?_
                      refine lv_dup2_11 hx hb dL_isSent_283 rfl rfl ?_
                      refine va_iald hx hb hKE.1 hP 8 0 rfl rfl (show vp_in 1 8 from by unfold vp_in; decide) dL_isSent_284 ?_
                      refine lv_iload hx hb dL_isSent_285 (lv_at hl 0 rfl) ?_
                      refine lv_if_eq (tgt := 294) hx hb dL_isSent_287 (by decide) (fun c9 => absurd c9 (by decide)) (fun _ => ?_)
                      refine lv_iconst (v := 0) hx hb dL_isSent_290 (by decide) ?_
                      refine lv_goto (tgt := 295) hx hb dL_isSent_291 (by decide) ?_
                      refine lv_iadd hx hb dL_isSent_295 ?_
                      refine va_iast hx hb hKE.1 hP hD hS 8 0 rfl rfl (show vp_in 1 8 from by unfold vp_in; decide) dL_isSent_296 (fun H locs hP hD hS => ?_)
                      have hP : va_P (eD E) vwCl ([((ax 0), .inr (3, [.ref (ax 1), .ref (ax 2), .ref (ax 4), .ref (ax 6), .int (gx_1282 4), .int (gx_1282 5), .int (gx_1282 6), .int (gx_1282 7), va_rf lt_1283, .int (gx_1282 9), .int (gx_1282 10), .int (gx_1282 11), .int (gx_1282 12), .int (gx_1282 13), .int (gx_1282 14), .int (gx_1282 15), .int (gx_1282 16), .int (gx_1282 17), .int (gx_1282 18)])), ((ax 1), .inr (0, [.int mo_1284, .ref ad_1285, .int ln_1286])), ((ax 2), .inr (2, [.ref (ax 3), .int pk_1290])), ((ax 3), .inl (eC E 1, 157, .inr (.inl pw_1289))), ((ax 4), .inr (2, [.ref (ax 5), .int lk_1292])), ((ax 5), .inl (eC E 1, 157, .inr (.inl lw_1291))), ((ax 6), .inl (eC E 0, 3, .inl ik_1293)), ((bx 0), .inl (eC E 0, 64, .inl cw)), ((bx 1), .inl (eC E 0, 8, .inl (upd mw (1 : Int32).toNatClampNeg ((mw (1 : Int32).toNatClampNeg) + 0))))] ++ va_pl PL_1287 pf_1288) H := hP
                      have hD : va_D A ([((ax 0), .inr (3, [.ref (ax 1), .ref (ax 2), .ref (ax 4), .ref (ax 6), .int (gx_1282 4), .int (gx_1282 5), .int (gx_1282 6), .int (gx_1282 7), va_rf lt_1283, .int (gx_1282 9), .int (gx_1282 10), .int (gx_1282 11), .int (gx_1282 12), .int (gx_1282 13), .int (gx_1282 14), .int (gx_1282 15), .int (gx_1282 16), .int (gx_1282 17), .int (gx_1282 18)])), ((ax 1), .inr (0, [.int mo_1284, .ref ad_1285, .int ln_1286])), ((ax 2), .inr (2, [.ref (ax 3), .int pk_1290])), ((ax 3), .inl (eC E 1, 157, .inr (.inl pw_1289))), ((ax 4), .inr (2, [.ref (ax 5), .int lk_1292])), ((ax 5), .inl (eC E 1, 157, .inr (.inl lw_1291))), ((ax 6), .inl (eC E 0, 3, .inl ik_1293)), ((bx 0), .inl (eC E 0, 64, .inl cw)), ((bx 1), .inl (eC E 0, 8, .inl (upd mw (1 : Int32).toNatClampNeg ((mw (1 : Int32).toNatClampNeg) + 0))))] ++ va_pl PL_1287 pf_1288) := hD
                      refine lv_iconst (v := 0) hx hb dL_isSent_297 (by decide) ?_
                      refine lv_istore (lv' := [(10, .int 0), (9, .int 1), (8, .int 1), (7, .int 1), (6, .int r_1229), (0, .ref (ax 0)), (1, .ref (bx 0)), (2, .ref (bx 1)), (3, .int p0), (4, .int p1), (5, .int p2)]) hx hb dL_isSent_298 hl (by decide) rfl (fun ls hl => ?_)
                      obtain ⟨n_1319, hw⟩ := hw
                      exact loop_300 n_1319 gx_1282 lt_1283 mo_1284 ad_1285 ln_1286 PL_1287 pf_1288 pw_1289 pk_1290 lw_1291 lk_1292 ik_1293 cw (upd mw (1 : Int32).toNatClampNeg ((mw (1 : Int32).toNatClampNeg) + 0)) p0 p1 r_1229 1 0 hw _ _ hP hD hS ls (lv_sub hl [5, 6, 7, 8, 9, 4, 2, 1, 0] rfl)
              · have hw := hw.1 c_1295
                refine lv_aload_n hx hb dL_isSent_239 rfl (lv_at hl 4 rfl) ?_
                refine lv_aload_n hx hb dL_isSent_240 rfl (lv_at hl 5 rfl) ?_
                refine lv_iconst (v := 3) hx hb dL_isSent_241 (by decide) ?_
                refine lv_iload hx hb dL_isSent_242 (lv_at hl 7 rfl) ?_
                refine lv_sipush (v := 255) hx hb dL_isSent_244 (by decide) ?_
                refine lv_iand hx hb dL_isSent_247 ?_
                refine lv_iconst (v := 0) hx hb dL_isSent_248 (by decide) ?_
                have hPc : va_P (eD E) vwCl (wCM E bx cw mw) H := hP.sub [7, 8] rfl
                have hDc : va_D A (wCM E bx cw mw) := hD.sub [7, 8] (by decide) rfl
                have hFc : ∀ q, va_A (wCM E bx cw mw) H.size q → A q := va_free hD hS hA [7, 8] rfl
                refine va_calli (va_runS (As := [.ref (bx 0), .ref (bx 1), .int 3, .int (p1 &&& 255), .int 0]) (rest := []) ⟨hx, hb, hml, hown, hta⟩ (c_L_queues E l bx cw mw 3 (p1 &&& 255) 0 H.size _ hw) (pcS (n := 5) hta tw_572 tw_570 tw_0 tw_571 rfl rfl hd_L_queues ⟨Nat.le_of_ble_eq_true rfl, Nat.le_of_ble_eq_true rfl⟩) ⟨fbM, fun U hU hW => ⟨rfl, preM.mk hPc hKE hDc hZ hS hFc hU hW⟩⟩ rfl rfl hl.1 rfl (lv_room (Nat.le_of_ble_eq_true rfl)) dL_isSent_249 ⟨Nat.le_of_ble_eq_true rfl, Nat.le_of_ble_eq_true rfl⟩) hS (fun q _ h => hFc q h) hFc (fun r_1320 u t H locs ht hvm hw hB hz1 hk1 hS => ?_)
                obtain ⟨cw_1321, mw_1322⟩ := u
                obtain ⟨hP1, hD1⟩ := hB
                rw [ht] at hP1
                try dsimp only at hw hP1 hD1
                obtain ⟨hP, hD⟩ := jnI (ws1 := ([((ax 0), .inr (3, [.ref (ax 1), .ref (ax 2), .ref (ax 4), .ref (ax 6), .int (gx_1282 4), .int (gx_1282 5), .int (gx_1282 6), .int (gx_1282 7), va_rf lt_1283, .int (gx_1282 9), .int (gx_1282 10), .int (gx_1282 11), .int (gx_1282 12), .int (gx_1282 13), .int (gx_1282 14), .int (gx_1282 15), .int (gx_1282 16), .int (gx_1282 17), .int (gx_1282 18)])), ((ax 1), .inr (0, [.int mo_1284, .ref ad_1285, .int ln_1286])), ((ax 2), .inr (2, [.ref (ax 3), .int pk_1290])), ((ax 3), .inl (eC E 1, 157, .inr (.inl pw_1289))), ((ax 4), .inr (2, [.ref (ax 5), .int lk_1292])), ((ax 5), .inl (eC E 1, 157, .inr (.inl lw_1291))), ((ax 6), .inl (eC E 0, 3, .inl ik_1293)), ((bx 0), .inl (eC E 0, 64, .inl cw_1321)), ((bx 1), .inl (eC E 0, 8, .inl mw_1322))] ++ va_pl PL_1287 pf_1288)) hP hD [7, 8] rfl hk1 hP1 rfl (by intro k hk; rcases k with _ | _ | _ | _ | _ | _ | _ | _ | _ | k <;> first | rfl | simp at hk) (by intro j i hj; rcases j with _ | _ | j <;> first | (cases hj; rfl) | cases hj)
                refine lv_pop hx hb dL_isSent_252 rfl ?_
                refine lv_goto (tgt := 333) hx hb dL_isSent_253 (by decide) ?_
                refine W.widen (k := 27) (n := 864) (Nat.le_of_ble_eq_true rfl) (Nat.le_of_ble_eq_true rfl) ?_
                obtain ⟨n_1323, hw⟩ := hw
                exact loop_333 n_1323 gx_1282 lt_1283 mo_1284 ad_1285 ln_1286 PL_1287 pf_1288 pw_1289 pk_1290 lw_1291 lk_1292 ik_1293 cw_1321 mw_1322 p0 r_1229 hw _ _ hP hD hS ls (lv_sub hl [3, 4, 5, 6, 2, 0] rfl)
          · have hw := hw.2 c_1280
            refine lv_iload hx hb dL_isSent_114 (lv_at hl 0 rfl) ?_
            refine lv_if_eq (tgt := 173) hx hb dL_isSent_116 (by decide) (fun c9 => absurd c9 (by decide)) (fun _ => ?_)
            refine lv_aload_n hx hb dL_isSent_119 rfl (lv_at hl 3 rfl) ?_
            refine lv_iconst (v := 0) hx hb dL_isSent_120 (by decide) ?_
            refine lv_iload hx hb dL_isSent_121 (lv_at hl 7 rfl) ?_
            refine lv_sipush (v := 255) hx hb dL_isSent_123 (by decide) ?_
            refine lv_iand hx hb dL_isSent_126 ?_
            refine lv_iconst (v := 0) hx hb dL_isSent_127 (by decide) ?_
            have hPc : va_P (eD E) vwCl (wX E ax gx_1263 lt_1264 mo_1265 ad_1266 ln_1267 PL_1268 pf_1269 pw_1270 pk_1271 lw_1272 lk_1273 ik_1274) H := hP.part [0, 1, 2, 3, 4, 5, 6] rfl
            have hDc : va_D A (wX E ax gx_1263 lt_1264 mo_1265 ad_1266 ln_1267 PL_1268 pf_1269 pw_1270 pk_1271 lw_1272 lk_1273 ik_1274) := hD.part [0, 1, 2, 3, 4, 5, 6] (by decide) rfl
            have hFc : ∀ q, va_A (wX E ax gx_1263 lt_1264 mo_1265 ad_1266 ln_1267 PL_1268 pf_1269 pw_1270 pk_1271 lw_1272 lk_1273 ik_1274) H.size q → A q := va_freeP hD hS hA [0, 1, 2, 3, 4, 5, 6] rfl
            refine va_calli (vx_runSW (As := [.ref (ax 0), .int 0, .int (p1 &&& 255), .int 0]) (rest := []) ⟨hx, hb, hml, hown, hta⟩ (c_L_act E l ax gx_1263 lt_1264 mo_1265 ad_1266 ln_1267 PL_1268 pf_1269 pw_1270 pk_1271 lw_1272 lk_1273 ik_1274 0 (p1 &&& 255) 0 H.size _ hw hst) (pcSW (n := 4) hta tw_231 tw_229 tw_0 tw_230 rfl rfl hd_L_act ⟨Nat.le_of_ble_eq_true rfl, Nat.le_of_ble_eq_true rfl⟩) ⟨fbM, fun U hU hW => ⟨rfl, preM.mk hPc hKE hDc hZ hS hFc hU hW⟩⟩ rfl rfl hl.1 rfl (lv_room (Nat.le_of_ble_eq_true rfl)) dL_isSent_128 ⟨Nat.le_of_ble_eq_true rfl, Nat.le_of_ble_eq_true rfl⟩) hS (fun q _ h => hFc q h) hFc (fun r_1324 u t H locs ht hvm hw hB hz1 hk1 hS => ?_)
            obtain ⟨gx_1325, lt_1326, mo_1327, ad_1328, ln_1329, PL_1330, pf_1331, pw_1332, pk_1333, lw_1334, lk_1335, ik_1336⟩ := u
            obtain ⟨hP1, hD1⟩ := hB
            rw [ht] at hP1
            try dsimp only at hw hP1 hD1
            obtain ⟨hP, hD⟩ := va_joinP (wr := [((bx 0), .inl (eC E 0, 64, .inl cw)), ((bx 1), .inl (eC E 0, 8, .inl mw))]) (rx := [((ax 0), .inr (3, [.ref (ax 1), .ref (ax 2), .ref (ax 4), .ref (ax 6), .int (gx_1325 4), .int (gx_1325 5), .int (gx_1325 6), .int (gx_1325 7), va_rf lt_1326, .int (gx_1325 9), .int (gx_1325 10), .int (gx_1325 11), .int (gx_1325 12), .int (gx_1325 13), .int (gx_1325 14), .int (gx_1325 15), .int (gx_1325 16), .int (gx_1325 17), .int (gx_1325 18)])), ((ax 1), .inr (0, [.int mo_1327, .ref ad_1328, .int ln_1329])), ((ax 2), .inr (2, [.ref (ax 3), .int pk_1333])), ((ax 3), .inl (eC E 1, 157, .inr (.inl pw_1332))), ((ax 4), .inr (2, [.ref (ax 5), .int lk_1335])), ((ax 5), .inl (eC E 1, 157, .inr (.inl lw_1334))), ((ax 6), .inl (eC E 0, 3, .inl ik_1336))]) (pl1 := va_pl PL_1330 pf_1331) hP hD [0, 1, 2, 3, 4, 5, 6] [7, 8] rfl rfl (by decide) (by decide) hk1 hFc hP1 hD1
            have hP : va_P (eD E) vwCl ([((ax 0), .inr (3, [.ref (ax 1), .ref (ax 2), .ref (ax 4), .ref (ax 6), .int (gx_1325 4), .int (gx_1325 5), .int (gx_1325 6), .int (gx_1325 7), va_rf lt_1326, .int (gx_1325 9), .int (gx_1325 10), .int (gx_1325 11), .int (gx_1325 12), .int (gx_1325 13), .int (gx_1325 14), .int (gx_1325 15), .int (gx_1325 16), .int (gx_1325 17), .int (gx_1325 18)])), ((ax 1), .inr (0, [.int mo_1327, .ref ad_1328, .int ln_1329])), ((ax 2), .inr (2, [.ref (ax 3), .int pk_1333])), ((ax 3), .inl (eC E 1, 157, .inr (.inl pw_1332))), ((ax 4), .inr (2, [.ref (ax 5), .int lk_1335])), ((ax 5), .inl (eC E 1, 157, .inr (.inl lw_1334))), ((ax 6), .inl (eC E 0, 3, .inl ik_1336)), ((bx 0), .inl (eC E 0, 64, .inl cw)), ((bx 1), .inl (eC E 0, 8, .inl mw))] ++ va_pl PL_1330 pf_1331) H := hP.part [2, 3, 4, 5, 6, 7, 8, 0, 1] rfl
            have hD : va_D A ([((ax 0), .inr (3, [.ref (ax 1), .ref (ax 2), .ref (ax 4), .ref (ax 6), .int (gx_1325 4), .int (gx_1325 5), .int (gx_1325 6), .int (gx_1325 7), va_rf lt_1326, .int (gx_1325 9), .int (gx_1325 10), .int (gx_1325 11), .int (gx_1325 12), .int (gx_1325 13), .int (gx_1325 14), .int (gx_1325 15), .int (gx_1325 16), .int (gx_1325 17), .int (gx_1325 18)])), ((ax 1), .inr (0, [.int mo_1327, .ref ad_1328, .int ln_1329])), ((ax 2), .inr (2, [.ref (ax 3), .int pk_1333])), ((ax 3), .inl (eC E 1, 157, .inr (.inl pw_1332))), ((ax 4), .inr (2, [.ref (ax 5), .int lk_1335])), ((ax 5), .inl (eC E 1, 157, .inr (.inl lw_1334))), ((ax 6), .inl (eC E 0, 3, .inl ik_1336)), ((bx 0), .inl (eC E 0, 64, .inl cw)), ((bx 1), .inl (eC E 0, 8, .inl mw))] ++ va_pl PL_1330 pf_1331) := hD.part [2, 3, 4, 5, 6, 7, 8, 0, 1] (by decide) rfl
            refine lv_iconst (v := 1) hx hb dL_isSent_131 (by decide) ?_
            refine lv_icmp_ne (tgt := 173) hx hb dL_isSent_132 (by decide) (fun c_1337 => ?_) (fun c_1337 => ?_)
            · have hw := hw.2 c_1337
              exact hw.elim
            · have hw := hw.1 c_1337
              refine lv_aload_n hx hb dL_isSent_135 rfl (lv_at hl 3 rfl) ?_
              have hPc : va_P (eD E) vwCl (wX E ax gx_1325 lt_1326 mo_1327 ad_1328 ln_1329 PL_1330 pf_1331 pw_1332 pk_1333 lw_1334 lk_1335 ik_1336) H := hP.part [0, 1, 2, 3, 4, 5, 6] rfl
              refine vp_callSi (va_Run.run (va_runV (As := []) (rest := []) ⟨hx, hb, hml, hown, hta⟩ (c_X2_pending E l ax gx_1325 lt_1326 mo_1327 ad_1328 ln_1329 PL_1330 pf_1331 pw_1332 pk_1333 lw_1334 lk_1335 ik_1336 _ hw) (pcV (n := 0) hta tw_129 tw_126 tw_1 tw_127 tw_128 rfl rfl hd_X2_pending ⟨Nat.le_of_ble_eq_true rfl, Nat.le_of_ble_eq_true rfl⟩) ⟨fbR, va_recv hKE.1 hP (ci := 3) (q0 := 0) rfl rfl, fun U hU hW => ⟨rfl, preR.mk hPc hKE hU hW⟩⟩ rfl rfl hl.1 rfl (lv_room (Nat.le_of_ble_eq_true rfl)) dL_isSent_136 ⟨Nat.le_of_ble_eq_true rfl, Nat.le_of_ble_eq_true rfl⟩)) (fun r_1338 hw => ?_)
              refine lv_iconst (v := 2) hx hb dL_isSent_139 (by decide) ?_
              refine lv_icmp_ne (tgt := 173) hx hb dL_isSent_140 (by decide) (fun c_1339 => ?_) (fun c_1339 => ?_)
              · have hw := hw.2 c_1339
                exact hw.elim
              · have hw := hw.1 c_1339
                refine lv_aload_n hx hb dL_isSent_143 rfl (lv_at hl 3 rfl) ?_
                have hPc : va_P (eD E) vwCl (wX E ax gx_1325 lt_1326 mo_1327 ad_1328 ln_1329 PL_1330 pf_1331 pw_1332 pk_1333 lw_1334 lk_1335 ik_1336) H := hP.part [0, 1, 2, 3, 4, 5, 6] rfl
                refine vp_callSi (va_Run.run (va_runV (As := []) (rest := []) ⟨hx, hb, hml, hown, hta⟩ (c_X2_errors E l ax gx_1325 lt_1326 mo_1327 ad_1328 ln_1329 PL_1330 pf_1331 pw_1332 pk_1333 lw_1334 lk_1335 ik_1336 _ hw) (pcV (n := 0) hta tw_514 tw_511 tw_1 tw_512 tw_513 rfl rfl hd_X2_errors ⟨Nat.le_of_ble_eq_true rfl, Nat.le_of_ble_eq_true rfl⟩) ⟨fbR, va_recv hKE.1 hP (ci := 3) (q0 := 0) rfl rfl, fun U hU hW => ⟨rfl, preR.mk hPc hKE hU hW⟩⟩ rfl rfl hl.1 rfl (lv_room (Nat.le_of_ble_eq_true rfl)) dL_isSent_144 ⟨Nat.le_of_ble_eq_true rfl, Nat.le_of_ble_eq_true rfl⟩)) (fun r_1340 hw => ?_)
                refine lv_aload_n hx hb dL_isSent_147 rfl (lv_at hl 5 rfl) ?_
                refine lv_iconst (v := 1) hx hb dL_isSent_148 (by decide) ?_
                refine va_iald hx hb hKE.1 hP 8 0 rfl rfl (show vp_in 1 8 from by unfold vp_in; decide) dL_isSent_149 ?_
                refine lv_icmp_ne (tgt := 173) hx hb dL_isSent_150 (by decide) (fun c_1341 => ?_) (fun c_1341 => ?_)
                · have hw := hw.2 c_1341
                  exact hw.elim
                · have hw := hw.1 c_1341
                  refine lv_aload_n hx hb dL_isSent_153 rfl (lv_at hl 3 rfl) ?_
                  refine lv_iconst (v := 0) hx hb dL_isSent_154 (by decide) ?_
                  refine lv_iload hx hb dL_isSent_155 (lv_at hl 8 rfl) ?_
                  refine lv_sipush (v := 255) hx hb dL_isSent_157 (by decide) ?_
                  refine lv_iand hx hb dL_isSent_160 ?_
                  refine lv_iconst (v := 0) hx hb dL_isSent_161 (by decide) ?_
                  have hPc : va_P (eD E) vwCl (wX E ax gx_1325 lt_1326 mo_1327 ad_1328 ln_1329 PL_1330 pf_1331 pw_1332 pk_1333 lw_1334 lk_1335 ik_1336) H := hP.part [0, 1, 2, 3, 4, 5, 6] rfl
                  have hDc : va_D A (wX E ax gx_1325 lt_1326 mo_1327 ad_1328 ln_1329 PL_1330 pf_1331 pw_1332 pk_1333 lw_1334 lk_1335 ik_1336) := hD.part [0, 1, 2, 3, 4, 5, 6] (by decide) rfl
                  have hFc : ∀ q, va_A (wX E ax gx_1325 lt_1326 mo_1327 ad_1328 ln_1329 PL_1330 pf_1331 pw_1332 pk_1333 lw_1334 lk_1335 ik_1336) H.size q → A q := va_freeP hD hS hA [0, 1, 2, 3, 4, 5, 6] rfl
                  refine va_calli (vx_runSW (As := [.ref (ax 0), .int 0, .int (p2 &&& 255), .int 0]) (rest := []) ⟨hx, hb, hml, hown, hta⟩ (c_L_act E l ax gx_1325 lt_1326 mo_1327 ad_1328 ln_1329 PL_1330 pf_1331 pw_1332 pk_1333 lw_1334 lk_1335 ik_1336 0 (p2 &&& 255) 0 H.size _ hw hst) (pcSW (n := 4) hta tw_231 tw_229 tw_0 tw_230 rfl rfl hd_L_act ⟨Nat.le_of_ble_eq_true rfl, Nat.le_of_ble_eq_true rfl⟩) ⟨fbM, fun U hU hW => ⟨rfl, preM.mk hPc hKE hDc hZ hS hFc hU hW⟩⟩ rfl rfl hl.1 rfl (lv_room (Nat.le_of_ble_eq_true rfl)) dL_isSent_162 ⟨Nat.le_of_ble_eq_true rfl, Nat.le_of_ble_eq_true rfl⟩) hS (fun q _ h => hFc q h) hFc (fun r_1342 u t H locs ht hvm hw hB hz1 hk1 hS => ?_)
                  obtain ⟨gx_1343, lt_1344, mo_1345, ad_1346, ln_1347, PL_1348, pf_1349, pw_1350, pk_1351, lw_1352, lk_1353, ik_1354⟩ := u
                  obtain ⟨hP1, hD1⟩ := hB
                  rw [ht] at hP1
                  try dsimp only at hw hP1 hD1
                  obtain ⟨hP, hD⟩ := va_joinP (wr := [((bx 0), .inl (eC E 0, 64, .inl cw)), ((bx 1), .inl (eC E 0, 8, .inl mw))]) (rx := [((ax 0), .inr (3, [.ref (ax 1), .ref (ax 2), .ref (ax 4), .ref (ax 6), .int (gx_1343 4), .int (gx_1343 5), .int (gx_1343 6), .int (gx_1343 7), va_rf lt_1344, .int (gx_1343 9), .int (gx_1343 10), .int (gx_1343 11), .int (gx_1343 12), .int (gx_1343 13), .int (gx_1343 14), .int (gx_1343 15), .int (gx_1343 16), .int (gx_1343 17), .int (gx_1343 18)])), ((ax 1), .inr (0, [.int mo_1345, .ref ad_1346, .int ln_1347])), ((ax 2), .inr (2, [.ref (ax 3), .int pk_1351])), ((ax 3), .inl (eC E 1, 157, .inr (.inl pw_1350))), ((ax 4), .inr (2, [.ref (ax 5), .int lk_1353])), ((ax 5), .inl (eC E 1, 157, .inr (.inl lw_1352))), ((ax 6), .inl (eC E 0, 3, .inl ik_1354))]) (pl1 := va_pl PL_1348 pf_1349) hP hD [0, 1, 2, 3, 4, 5, 6] [7, 8] rfl rfl (by decide) (by decide) hk1 hFc hP1 hD1
                  have hP : va_P (eD E) vwCl ([((ax 0), .inr (3, [.ref (ax 1), .ref (ax 2), .ref (ax 4), .ref (ax 6), .int (gx_1343 4), .int (gx_1343 5), .int (gx_1343 6), .int (gx_1343 7), va_rf lt_1344, .int (gx_1343 9), .int (gx_1343 10), .int (gx_1343 11), .int (gx_1343 12), .int (gx_1343 13), .int (gx_1343 14), .int (gx_1343 15), .int (gx_1343 16), .int (gx_1343 17), .int (gx_1343 18)])), ((ax 1), .inr (0, [.int mo_1345, .ref ad_1346, .int ln_1347])), ((ax 2), .inr (2, [.ref (ax 3), .int pk_1351])), ((ax 3), .inl (eC E 1, 157, .inr (.inl pw_1350))), ((ax 4), .inr (2, [.ref (ax 5), .int lk_1353])), ((ax 5), .inl (eC E 1, 157, .inr (.inl lw_1352))), ((ax 6), .inl (eC E 0, 3, .inl ik_1354)), ((bx 0), .inl (eC E 0, 64, .inl cw)), ((bx 1), .inl (eC E 0, 8, .inl mw))] ++ va_pl PL_1348 pf_1349) H := hP.part [2, 3, 4, 5, 6, 7, 8, 0, 1] rfl
                  have hD : va_D A ([((ax 0), .inr (3, [.ref (ax 1), .ref (ax 2), .ref (ax 4), .ref (ax 6), .int (gx_1343 4), .int (gx_1343 5), .int (gx_1343 6), .int (gx_1343 7), va_rf lt_1344, .int (gx_1343 9), .int (gx_1343 10), .int (gx_1343 11), .int (gx_1343 12), .int (gx_1343 13), .int (gx_1343 14), .int (gx_1343 15), .int (gx_1343 16), .int (gx_1343 17), .int (gx_1343 18)])), ((ax 1), .inr (0, [.int mo_1345, .ref ad_1346, .int ln_1347])), ((ax 2), .inr (2, [.ref (ax 3), .int pk_1351])), ((ax 3), .inl (eC E 1, 157, .inr (.inl pw_1350))), ((ax 4), .inr (2, [.ref (ax 5), .int lk_1353])), ((ax 5), .inl (eC E 1, 157, .inr (.inl lw_1352))), ((ax 6), .inl (eC E 0, 3, .inl ik_1354)), ((bx 0), .inl (eC E 0, 64, .inl cw)), ((bx 1), .inl (eC E 0, 8, .inl mw))] ++ va_pl PL_1348 pf_1349) := hD.part [2, 3, 4, 5, 6, 7, 8, 0, 1] (by decide) rfl
                  refine lv_iconst (v := 1) hx hb dL_isSent_165 (by decide) ?_
                  refine lv_icmp_ne (tgt := 173) hx hb dL_isSent_166 (by decide) (fun c_1355 => ?_) (fun c_1355 => ?_)
                  · have hw := hw.2 c_1355
                    exact hw.elim
                  · have hw := hw.1 c_1355
                    refine lv_iconst (v := 1) hx hb dL_isSent_169 (by decide) ?_
                    refine lv_goto (tgt := 174) hx hb dL_isSent_170 (by decide) ?_
                    refine lv_istore (lv' := [(8, .int 1), (7, .int 1), (6, .int r_1229), (0, .ref (ax 0)), (1, .ref (bx 0)), (2, .ref (bx 1)), (3, .int p0), (4, .int p1), (5, .int p2)]) hx hb dL_isSent_174 hl (by decide) rfl (fun ls hl => ?_)
                    refine lv_aload_n hx hb dL_isSent_176 rfl (lv_at hl 4 rfl) ?_
                    refine lv_aload_n hx hb dL_isSent_177 rfl (lv_at hl 5 rfl) ?_
                    refine lv_iload_n hx hb dL_isSent_178 rfl (lv_at hl 6 rfl) ?_
                    refine lv_iload hx hb dL_isSent_179 (lv_at hl 7 rfl) ?_
                    refine lv_iload hx hb dL_isSent_181 (lv_at hl 8 rfl) ?_
                    have hPc : va_P (eD E) vwCl (wCM E bx cw mw) H := hP.sub [7, 8] rfl
                    have hDc : va_D A (wCM E bx cw mw) := hD.sub [7, 8] (by decide) rfl
                    have hFc : ∀ q, va_A (wCM E bx cw mw) H.size q → A q := va_free hD hS hA [7, 8] rfl
                    refine va_calli (va_runS (As := [.ref (bx 0), .ref (bx 1), .int p0, .int p1, .int p2]) (rest := []) ⟨hx, hb, hml, hown, hta⟩ (c_L_queues E l bx cw mw p0 p1 p2 H.size _ hw) (pcS (n := 5) hta tw_572 tw_570 tw_0 tw_571 rfl rfl hd_L_queues ⟨Nat.le_of_ble_eq_true rfl, Nat.le_of_ble_eq_true rfl⟩) ⟨fbM, fun U hU hW => ⟨rfl, preM.mk hPc hKE hDc hZ hS hFc hU hW⟩⟩ rfl rfl hl.1 rfl (lv_room (Nat.le_of_ble_eq_true rfl)) dL_isSent_183 ⟨Nat.le_of_ble_eq_true rfl, Nat.le_of_ble_eq_true rfl⟩) hS (fun q _ h => hFc q h) hFc (fun r_1356 u t H locs ht hvm hw hB hz1 hk1 hS => ?_)
                    obtain ⟨cw_1357, mw_1358⟩ := u
                    obtain ⟨hP1, hD1⟩ := hB
                    rw [ht] at hP1
                    try dsimp only at hw hP1 hD1
                    obtain ⟨hP, hD⟩ := jnI (ws1 := ([((ax 0), .inr (3, [.ref (ax 1), .ref (ax 2), .ref (ax 4), .ref (ax 6), .int (gx_1343 4), .int (gx_1343 5), .int (gx_1343 6), .int (gx_1343 7), va_rf lt_1344, .int (gx_1343 9), .int (gx_1343 10), .int (gx_1343 11), .int (gx_1343 12), .int (gx_1343 13), .int (gx_1343 14), .int (gx_1343 15), .int (gx_1343 16), .int (gx_1343 17), .int (gx_1343 18)])), ((ax 1), .inr (0, [.int mo_1345, .ref ad_1346, .int ln_1347])), ((ax 2), .inr (2, [.ref (ax 3), .int pk_1351])), ((ax 3), .inl (eC E 1, 157, .inr (.inl pw_1350))), ((ax 4), .inr (2, [.ref (ax 5), .int lk_1353])), ((ax 5), .inl (eC E 1, 157, .inr (.inl lw_1352))), ((ax 6), .inl (eC E 0, 3, .inl ik_1354)), ((bx 0), .inl (eC E 0, 64, .inl cw_1357)), ((bx 1), .inl (eC E 0, 8, .inl mw_1358))] ++ va_pl PL_1348 pf_1349)) hP hD [7, 8] rfl hk1 hP1 rfl (by intro k hk; rcases k with _ | _ | _ | _ | _ | _ | _ | _ | _ | k <;> first | rfl | simp at hk) (by intro j i hj; rcases j with _ | _ | j <;> first | (cases hj; rfl) | cases hj)
                    refine lv_if_eq (tgt := 333) hx hb dL_isSent_186 (by decide) (fun c_1359 => ?_) (fun c_1359 => ?_)
                    · have hw := hw.1 c_1359
                      obtain ⟨n_1360, hw⟩ := hw
                      exact loop_333 n_1360 gx_1343 lt_1344 mo_1345 ad_1346 ln_1347 PL_1348 pf_1349 pw_1350 pk_1351 lw_1352 lk_1353 ik_1354 cw_1357 mw_1358 p0 r_1229 hw _ _ hP hD hS ls (lv_sub hl [3, 4, 5, 6, 2, 0] rfl)
                    · have hw := hw.2 c_1359
                      refine lv_aload_n hx hb dL_isSent_189 rfl (lv_at hl 5 rfl) ?_
                      refine lv_iconst (v := 2) hx hb dL_isSent_190 (by decide) ?_
                      refine lv_iload_n hx hb dL_isSent_191 rfl (lv_at hl 6 rfl) ?_
                      refine va_iast hx hb hKE.1 hP hD hS 8 0 rfl rfl (show vp_in 2 8 from by unfold vp_in; decide) dL_isSent_192 (fun H locs hP hD hS => ?_)
                      have hP : va_P (eD E) vwCl ([((ax 0), .inr (3, [.ref (ax 1), .ref (ax 2), .ref (ax 4), .ref (ax 6), .int (gx_1343 4), .int (gx_1343 5), .int (gx_1343 6), .int (gx_1343 7), va_rf lt_1344, .int (gx_1343 9), .int (gx_1343 10), .int (gx_1343 11), .int (gx_1343 12), .int (gx_1343 13), .int (gx_1343 14), .int (gx_1343 15), .int (gx_1343 16), .int (gx_1343 17), .int (gx_1343 18)])), ((ax 1), .inr (0, [.int mo_1345, .ref ad_1346, .int ln_1347])), ((ax 2), .inr (2, [.ref (ax 3), .int pk_1351])), ((ax 3), .inl (eC E 1, 157, .inr (.inl pw_1350))), ((ax 4), .inr (2, [.ref (ax 5), .int lk_1353])), ((ax 5), .inl (eC E 1, 157, .inr (.inl lw_1352))), ((ax 6), .inl (eC E 0, 3, .inl ik_1354)), ((bx 0), .inl (eC E 0, 64, .inl cw_1357)), ((bx 1), .inl (eC E 0, 8, .inl (upd mw_1358 (2 : Int32).toNatClampNeg p0)))] ++ va_pl PL_1348 pf_1349) H := hP
                      have hD : va_D A ([((ax 0), .inr (3, [.ref (ax 1), .ref (ax 2), .ref (ax 4), .ref (ax 6), .int (gx_1343 4), .int (gx_1343 5), .int (gx_1343 6), .int (gx_1343 7), va_rf lt_1344, .int (gx_1343 9), .int (gx_1343 10), .int (gx_1343 11), .int (gx_1343 12), .int (gx_1343 13), .int (gx_1343 14), .int (gx_1343 15), .int (gx_1343 16), .int (gx_1343 17), .int (gx_1343 18)])), ((ax 1), .inr (0, [.int mo_1345, .ref ad_1346, .int ln_1347])), ((ax 2), .inr (2, [.ref (ax 3), .int pk_1351])), ((ax 3), .inl (eC E 1, 157, .inr (.inl pw_1350))), ((ax 4), .inr (2, [.ref (ax 5), .int lk_1353])), ((ax 5), .inl (eC E 1, 157, .inr (.inl lw_1352))), ((ax 6), .inl (eC E 0, 3, .inl ik_1354)), ((bx 0), .inl (eC E 0, 64, .inl cw_1357)), ((bx 1), .inl (eC E 0, 8, .inl (upd mw_1358 (2 : Int32).toNatClampNeg p0)))] ++ va_pl PL_1348 pf_1349) := hD
                      refine lv_aload_n hx hb dL_isSent_193 rfl (lv_at hl 5 rfl) ?_
                      refine lv_iconst (v := 3) hx hb dL_isSent_194 (by decide) ?_
                      refine lv_iload hx hb dL_isSent_195 (lv_at hl 7 rfl) ?_
                      refine va_iast hx hb hKE.1 hP hD hS 8 0 rfl rfl (show vp_in 3 8 from by unfold vp_in; decide) dL_isSent_197 (fun H locs hP hD hS => ?_)
                      have hP : va_P (eD E) vwCl ([((ax 0), .inr (3, [.ref (ax 1), .ref (ax 2), .ref (ax 4), .ref (ax 6), .int (gx_1343 4), .int (gx_1343 5), .int (gx_1343 6), .int (gx_1343 7), va_rf lt_1344, .int (gx_1343 9), .int (gx_1343 10), .int (gx_1343 11), .int (gx_1343 12), .int (gx_1343 13), .int (gx_1343 14), .int (gx_1343 15), .int (gx_1343 16), .int (gx_1343 17), .int (gx_1343 18)])), ((ax 1), .inr (0, [.int mo_1345, .ref ad_1346, .int ln_1347])), ((ax 2), .inr (2, [.ref (ax 3), .int pk_1351])), ((ax 3), .inl (eC E 1, 157, .inr (.inl pw_1350))), ((ax 4), .inr (2, [.ref (ax 5), .int lk_1353])), ((ax 5), .inl (eC E 1, 157, .inr (.inl lw_1352))), ((ax 6), .inl (eC E 0, 3, .inl ik_1354)), ((bx 0), .inl (eC E 0, 64, .inl cw_1357)), ((bx 1), .inl (eC E 0, 8, .inl (upd (upd mw_1358 (2 : Int32).toNatClampNeg p0) (3 : Int32).toNatClampNeg p1)))] ++ va_pl PL_1348 pf_1349) H := hP
                      have hD : va_D A ([((ax 0), .inr (3, [.ref (ax 1), .ref (ax 2), .ref (ax 4), .ref (ax 6), .int (gx_1343 4), .int (gx_1343 5), .int (gx_1343 6), .int (gx_1343 7), va_rf lt_1344, .int (gx_1343 9), .int (gx_1343 10), .int (gx_1343 11), .int (gx_1343 12), .int (gx_1343 13), .int (gx_1343 14), .int (gx_1343 15), .int (gx_1343 16), .int (gx_1343 17), .int (gx_1343 18)])), ((ax 1), .inr (0, [.int mo_1345, .ref ad_1346, .int ln_1347])), ((ax 2), .inr (2, [.ref (ax 3), .int pk_1351])), ((ax 3), .inl (eC E 1, 157, .inr (.inl pw_1350))), ((ax 4), .inr (2, [.ref (ax 5), .int lk_1353])), ((ax 5), .inl (eC E 1, 157, .inr (.inl lw_1352))), ((ax 6), .inl (eC E 0, 3, .inl ik_1354)), ((bx 0), .inl (eC E 0, 64, .inl cw_1357)), ((bx 1), .inl (eC E 0, 8, .inl (upd (upd mw_1358 (2 : Int32).toNatClampNeg p0) (3 : Int32).toNatClampNeg p1)))] ++ va_pl PL_1348 pf_1349) := hD
                      refine lv_aload_n hx hb dL_isSent_198 rfl (lv_at hl 5 rfl) ?_
                      refine lv_iconst (v := 4) hx hb dL_isSent_199 (by decide) ?_
                      refine lv_iload hx hb dL_isSent_200 (lv_at hl 8 rfl) ?_
                      refine va_iast hx hb hKE.1 hP hD hS 8 0 rfl rfl (show vp_in 4 8 from by unfold vp_in; decide) dL_isSent_202 (fun H locs hP hD hS => ?_)
                      have hP : va_P (eD E) vwCl ([((ax 0), .inr (3, [.ref (ax 1), .ref (ax 2), .ref (ax 4), .ref (ax 6), .int (gx_1343 4), .int (gx_1343 5), .int (gx_1343 6), .int (gx_1343 7), va_rf lt_1344, .int (gx_1343 9), .int (gx_1343 10), .int (gx_1343 11), .int (gx_1343 12), .int (gx_1343 13), .int (gx_1343 14), .int (gx_1343 15), .int (gx_1343 16), .int (gx_1343 17), .int (gx_1343 18)])), ((ax 1), .inr (0, [.int mo_1345, .ref ad_1346, .int ln_1347])), ((ax 2), .inr (2, [.ref (ax 3), .int pk_1351])), ((ax 3), .inl (eC E 1, 157, .inr (.inl pw_1350))), ((ax 4), .inr (2, [.ref (ax 5), .int lk_1353])), ((ax 5), .inl (eC E 1, 157, .inr (.inl lw_1352))), ((ax 6), .inl (eC E 0, 3, .inl ik_1354)), ((bx 0), .inl (eC E 0, 64, .inl cw_1357)), ((bx 1), .inl (eC E 0, 8, .inl (upd (upd (upd mw_1358 (2 : Int32).toNatClampNeg p0) (3 : Int32).toNatClampNeg p1) (4 : Int32).toNatClampNeg p2)))] ++ va_pl PL_1348 pf_1349) H := hP
                      have hD : va_D A ([((ax 0), .inr (3, [.ref (ax 1), .ref (ax 2), .ref (ax 4), .ref (ax 6), .int (gx_1343 4), .int (gx_1343 5), .int (gx_1343 6), .int (gx_1343 7), va_rf lt_1344, .int (gx_1343 9), .int (gx_1343 10), .int (gx_1343 11), .int (gx_1343 12), .int (gx_1343 13), .int (gx_1343 14), .int (gx_1343 15), .int (gx_1343 16), .int (gx_1343 17), .int (gx_1343 18)])), ((ax 1), .inr (0, [.int mo_1345, .ref ad_1346, .int ln_1347])), ((ax 2), .inr (2, [.ref (ax 3), .int pk_1351])), ((ax 3), .inl (eC E 1, 157, .inr (.inl pw_1350))), ((ax 4), .inr (2, [.ref (ax 5), .int lk_1353])), ((ax 5), .inl (eC E 1, 157, .inr (.inl lw_1352))), ((ax 6), .inl (eC E 0, 3, .inl ik_1354)), ((bx 0), .inl (eC E 0, 64, .inl cw_1357)), ((bx 1), .inl (eC E 0, 8, .inl (upd (upd (upd mw_1358 (2 : Int32).toNatClampNeg p0) (3 : Int32).toNatClampNeg p1) (4 : Int32).toNatClampNeg p2)))] ++ va_pl PL_1348 pf_1349) := hD
                      refine lv_goto (tgt := 333) hx hb dL_isSent_203 (by decide) ?_
                      obtain ⟨n_1361, hw⟩ := hw
                      exact loop_333 n_1361 gx_1343 lt_1344 mo_1345 ad_1346 ln_1347 PL_1348 pf_1349 pw_1350 pk_1351 lw_1352 lk_1353 ik_1354 cw_1357 (upd (upd (upd mw_1358 (2 : Int32).toNatClampNeg p0) (3 : Int32).toNatClampNeg p1) (4 : Int32).toNatClampNeg p2) p0 r_1229 hw _ _ hP hD hS ls (lv_sub hl [3, 4, 5, 6, 2, 0] rfl)
