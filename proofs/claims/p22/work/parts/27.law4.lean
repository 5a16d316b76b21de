def wp_L_isTicked_L494 (E : EV) (post : Int32 → (Nat → Int32) → Option Nat → Int32 → Nat → Int32 → List Nat → (Nat → va_E) → (Nat → Int64) → Int32 → (Nat → Int64) → Int32 → (Nat → Int32) → (Nat → Int32) → (Nat → Int32) → Prop)  : Nat → (Nat → Int32) → Option Nat → Int32 → Nat → Int32 → List Nat → (Nat → va_E) → (Nat → Int64) → Int32 → (Nat → Int64) → Int32 → (Nat → Int32) → (Nat → Int32) → (Nat → Int32) → Int32 → Int32 → Int32 → Prop
  | 0, _, _, _, _, _, _, _, _, _, _, _, _, _, _, _, _, _ => False
  | n + 1, gx_L, lt_L, mo_L, ad_L, ln_L, PL_L, pf_L, pw_L, pk_L, lw_L, lk_L, ik_L, cw_L, mw_L, x13, x15, x16 => ((x16 = 0 → post 1 gx_L lt_L mo_L ad_L ln_L PL_L pf_L pw_L pk_L lw_L lk_L ik_L cw_L mw_L) ∧ (¬ (x16 = 0) → ((x13 = 3 → (wp_X2_pen E (fun r_1431 : Int32 => ((r_1431 = (cw_L (1 : Int32).toNatClampNeg) → (wp_L_moves E (fun (cw_1434 : Nat → Int32) (mw_1435 : Nat → Int32) => post 1 gx_L lt_L mo_L ad_L ln_L PL_L pf_L pw_L pk_L lw_L lk_L ik_L cw_1434 mw_1435) cw_L mw_L)) ∧ (¬ (r_1431 = (cw_L (1 : Int32).toNatClampNeg)) → False))) gx_L lt_L mo_L ad_L ln_L PL_L pf_L pw_L pk_L lw_L lk_L ik_L)) ∧ (¬ (x13 = 3) → ((x15 = 0 → False) ∧ (¬ (x15 = 0) → (wp_L_moves E (fun (cw_1429 : Nat → Int32) (mw_1430 : Nat → Int32) => post 1 gx_L lt_L mo_L ad_L ln_L PL_L pf_L pw_L pk_L lw_L lk_L ik_L cw_1429 mw_1430) cw_L mw_L)))))))
def wp_L_isTicked_L319 (E : EV) (post : Int32 → (Nat → Int32) → Option Nat → Int32 → Nat → Int32 → List Nat → (Nat → va_E) → (Nat → Int64) → Int32 → (Nat → Int64) → Int32 → (Nat → Int32) → (Nat → Int32) → (Nat → Int32) → Prop)  : Nat → (Nat → Int32) → Option Nat → Int32 → Nat → Int32 → List Nat → (Nat → va_E) → (Nat → Int64) → Int32 → (Nat → Int64) → Int32 → (Nat → Int32) → (Nat → Int32) → (Nat → Int32) → Int32 → Int32 → Int32 → Int32 → Int32 → Int32 → Int32 → Int32 → Prop
  | 0, _, _, _, _, _, _, _, _, _, _, _, _, _, _, _, _, _, _, _, _, _, _ => False
  | n + 1, gx_L, lt_L, mo_L, ad_L, ln_L, PL_L, pf_L, pw_L, pk_L, lw_L, lk_L, ik_L, cw_L, mw_L, x7, x8, x9, x10, x11, x13, x15, x16 => ((x15 = 0 → (wp_X2_at E (fun r_1417 : Int32 => ((r_1417 = x10 → (wp_X2_ink_r E (fun r_1419 : Int32 => ((r_1419 = x9 → (wp_X2_isDown E (fun r_1421 : Int32 => ((r_1421 = x11 → (wp_X2_pen E (fun r_1423 : Int32 => ((r_1423 = x8 → (∃ n : Nat, wp_L_isTicked_L494 E post n gx_L lt_L mo_L ad_L ln_L PL_L pf_L pw_L pk_L lw_L lk_L ik_L cw_L (upd mw_L (7 : Int32).toNatClampNeg ((mw_L (7 : Int32).toNatClampNeg) + 0)) x13 x15 x16)) ∧ (¬ (r_1423 = x8) → ((x16 = 0 → False) ∧ (¬ (x16 = 0) → ((x13 = 3 → ((x11 = 0 → (∃ n : Nat, wp_L_isTicked_L494 E post n gx_L lt_L mo_L ad_L ln_L PL_L pf_L pw_L pk_L lw_L lk_L ik_L cw_L (upd mw_L (7 : Int32).toNatClampNeg ((mw_L (7 : Int32).toNatClampNeg) + 0)) x13 x15 x16)) ∧ (¬ (x11 = 0) → False))) ∧ (¬ (x13 = 3) → False))))))) gx_L lt_L mo_L ad_L ln_L PL_L pf_L pw_L pk_L lw_L lk_L ik_L)) ∧ (¬ (r_1421 = x11) → ((x13 = 2 → ((0 = x11 → (wp_X2_pen E (fun r_1443 : Int32 => ((r_1443 = x8 → (∃ n : Nat, wp_L_isTicked_L494 E post n gx_L lt_L mo_L ad_L ln_L PL_L pf_L pw_L pk_L lw_L lk_L ik_L cw_L (upd mw_L (7 : Int32).toNatClampNeg ((mw_L (7 : Int32).toNatClampNeg) + 0)) x13 x15 x16)) ∧ (¬ (r_1443 = x8) → ((x16 = 0 → False) ∧ (¬ (x16 = 0) → ((x13 = 3 → ((x11 = 0 → (∃ n : Nat, wp_L_isTicked_L494 E post n gx_L lt_L mo_L ad_L ln_L PL_L pf_L pw_L pk_L lw_L lk_L ik_L cw_L (upd mw_L (7 : Int32).toNatClampNeg ((mw_L (7 : Int32).toNatClampNeg) + 0)) x13 x15 x16)) ∧ (¬ (x11 = 0) → False))) ∧ (¬ (x13 = 3) → False))))))) gx_L lt_L mo_L ad_L ln_L PL_L pf_L pw_L pk_L lw_L lk_L ik_L)) ∧ (¬ (0 = x11) → False))) ∧ (¬ (x13 = 2) → ((1 = x11 → (wp_X2_pen E (fun r_1451 : Int32 => ((r_1451 = x8 → (∃ n : Nat, wp_L_isTicked_L494 E post n gx_L lt_L mo_L ad_L ln_L PL_L pf_L pw_L pk_L lw_L lk_L ik_L cw_L (upd mw_L (7 : Int32).toNatClampNeg ((mw_L (7 : Int32).toNatClampNeg) + 0)) x13 x15 x16)) ∧ (¬ (r_1451 = x8) → ((x16 = 0 → False) ∧ (¬ (x16 = 0) → ((x13 = 3 → ((x11 = 0 → (∃ n : Nat, wp_L_isTicked_L494 E post n gx_L lt_L mo_L ad_L ln_L PL_L pf_L pw_L pk_L lw_L lk_L ik_L cw_L (upd mw_L (7 : Int32).toNatClampNeg ((mw_L (7 : Int32).toNatClampNeg) + 0)) x13 x15 x16)) ∧ (¬ (x11 = 0) → False))) ∧ (¬ (x13 = 3) → False))))))) gx_L lt_L mo_L ad_L ln_L PL_L pf_L pw_L pk_L lw_L lk_L ik_L)) ∧ (¬ (1 = x11) → False))))))) gx_L lt_L mo_L ad_L ln_L PL_L pf_L pw_L pk_L lw_L lk_L ik_L)) ∧ (¬ (r_1419 = x9) → False))) gx_L lt_L mo_L ad_L ln_L PL_L pf_L pw_L pk_L lw_L lk_L ik_L x8)) ∧ (¬ (r_1417 = x10) → False))) gx_L lt_L mo_L ad_L ln_L PL_L pf_L pw_L pk_L lw_L lk_L ik_L)) ∧ (¬ (x15 = 0) → (wp_X2_isDown E (fun r_1458 : Int32 => ((r_1458 = x11 → (wp_X2_ink_r E (fun r_1460 : Int32 => ((x13 = 2 → ((r_1460 = (x9 - 1) → (wp_X2_pen E (fun r_1469 : Int32 => ((r_1469 = x8 → (∃ n : Nat, wp_L_isTicked_L494 E post n gx_L lt_L mo_L ad_L ln_L PL_L pf_L pw_L pk_L lw_L lk_L ik_L cw_L (upd mw_L (7 : Int32).toNatClampNeg ((mw_L (7 : Int32).toNatClampNeg) + 1)) x13 x15 x16)) ∧ (¬ (r_1469 = x8) → False))) gx_L lt_L mo_L ad_L ln_L PL_L pf_L pw_L pk_L lw_L lk_L ik_L)) ∧ (¬ (r_1460 = (x9 - 1)) → False))) ∧ (¬ (x13 = 2) → ((r_1460 = (x9 - 0) → (wp_X2_marks E (fun r_1463 : Int32 => ((r_1463 = x7 → (wp_X2_pen E (fun r_1465 : Int32 => ((r_1465 = x8 → (∃ n : Nat, wp_L_isTicked_L494 E post n gx_L lt_L mo_L ad_L ln_L PL_L pf_L pw_L pk_L lw_L lk_L ik_L cw_L (upd mw_L (7 : Int32).toNatClampNeg ((mw_L (7 : Int32).toNatClampNeg) + 1)) x13 x15 x16)) ∧ (¬ (r_1465 = x8) → False))) gx_L lt_L mo_L ad_L ln_L PL_L pf_L pw_L pk_L lw_L lk_L ik_L)) ∧ (¬ (r_1463 = x7) → False))) gx_L lt_L mo_L ad_L ln_L PL_L pf_L pw_L pk_L lw_L lk_L ik_L)) ∧ (¬ (r_1460 = (x9 - 0)) → False))))) gx_L lt_L mo_L ad_L ln_L PL_L pf_L pw_L pk_L lw_L lk_L ik_L x8)) ∧ (¬ (r_1458 = x11) → False))) gx_L lt_L mo_L ad_L ln_L PL_L pf_L pw_L pk_L lw_L lk_L ik_L)))
def wp_L_isTicked_L195 (E : EV) (post : Int32 → (Nat → Int32) → Option Nat → Int32 → Nat → Int32 → List Nat → (Nat → va_E) → (Nat → Int64) → Int32 → (Nat → Int64) → Int32 → (Nat → Int32) → (Nat → Int32) → (Nat → Int32) → Prop)  : Nat → (Nat → Int32) → Option Nat → Int32 → Nat → Int32 → List Nat → (Nat → va_E) → (Nat → Int64) → Int32 → (Nat → Int64) → Int32 → (Nat → Int32) → (Nat → Int32) → (Nat → Int32) → Int32 → Int32 → Int32 → Int32 → Int32 → Int32 → Int32 → Int32 → Int32 → Int32 → Int32 → Int32 → Int32 → Int32 → Prop
  | 0, _, _, _, _, _, _, _, _, _, _, _, _, _, _, _, _, _, _, _, _, _, _, _, _, _, _, _, _ => False
  | n + 1, gx_L, lt_L, mo_L, ad_L, ln_L, PL_L, pf_L, pw_L, pk_L, lw_L, lk_L, ik_L, cw_L, mw_L, x3, x4, x5, x6, x7, x8, x9, x10, x11, x12, x13, x14, x15, x16 => ((x15 = 0 → ((x14 = 0 → (wp_X2_timeLeft E (fun r_1404 : Int32 => ((r_1404 = (x3 - 1) → (wp_X2_stepsUp E (fun r_1406 : Int32 => ((r_1406 = (x5 + 0) → (wp_X2_stepsDown E (fun r_1408 : Int32 => ((r_1408 = (x6 + 0) → (wp_X2_marks E (fun r_1410 : Int32 => ((r_1410 < x7 → False) ∧ (¬ (r_1410 < x7) → (wp_X2_marks E (fun r_1412 : Int32 => (((x7 + 1) < r_1412 → False) ∧ (¬ (x7 + 1) < r_1412 → (wp_X2_queued E (fun r_1414 : Int32 => ((r_1414 = x4 → (∃ n : Nat, wp_L_isTicked_L319 E post n gx_L lt_L mo_L ad_L ln_L PL_L pf_L pw_L pk_L lw_L lk_L ik_L cw_L mw_L x7 x8 x9 x10 x11 x13 x15 x16)) ∧ (¬ (r_1414 = x4) → (wp_X2_queued E (fun r_1473 : Int32 => ((r_1473 = (x4 - 1) → (∃ n : Nat, wp_L_isTicked_L319 E post n gx_L lt_L mo_L ad_L ln_L PL_L pf_L pw_L pk_L lw_L lk_L ik_L cw_L mw_L x7 x8 x9 x10 x11 x13 x15 x16)) ∧ (¬ (r_1473 = (x4 - 1)) → False))) gx_L lt_L mo_L ad_L ln_L PL_L pf_L pw_L pk_L lw_L lk_L ik_L)))) gx_L lt_L mo_L ad_L ln_L PL_L pf_L pw_L pk_L lw_L lk_L ik_L)))) gx_L lt_L mo_L ad_L ln_L PL_L pf_L pw_L pk_L lw_L lk_L ik_L)))) gx_L lt_L mo_L ad_L ln_L PL_L pf_L pw_L pk_L lw_L lk_L ik_L)) ∧ (¬ (r_1408 = (x6 + 0)) → False))) gx_L lt_L mo_L ad_L ln_L PL_L pf_L pw_L pk_L lw_L lk_L ik_L)) ∧ (¬ (r_1406 = (x5 + 0)) → False))) gx_L lt_L mo_L ad_L ln_L PL_L pf_L pw_L pk_L lw_L lk_L ik_L)) ∧ (¬ (r_1404 = (x3 - 1)) → False))) gx_L lt_L mo_L ad_L ln_L PL_L pf_L pw_L pk_L lw_L lk_L ik_L)) ∧ (¬ (x14 = 0) → False))) ∧ (¬ (x15 = 0) → ((x14 = 1 → (wp_X2_timeLeft E (fun r_1477 : Int32 => ((r_1477 = (x3 - 1) → (wp_X2_stepsUp E (fun r_1479 : Int32 => ((x13 = 1 → ((r_1479 = (x5 + 1) → (wp_X2_stepsDown E (fun r_1507 : Int32 => ((x13 = 2 → ((r_1507 = (x6 + 1) → (wp_X2_marks E (fun r_1521 : Int32 => ((r_1521 < x7 → False) ∧ (¬ (r_1521 < x7) → (wp_X2_marks E (fun r_1523 : Int32 => (((x7 + 1) < r_1523 → False) ∧ (¬ (x7 + 1) < r_1523 → (wp_X2_queued E (fun r_1525 : Int32 => ((r_1525 = x4 → (∃ n : Nat, wp_L_isTicked_L319 E post n gx_L lt_L mo_L ad_L ln_L PL_L pf_L pw_L pk_L lw_L lk_L ik_L cw_L mw_L x7 x8 x9 x10 x11 x13 x15 x16)) ∧ (¬ (r_1525 = x4) → (wp_X2_queued E (fun r_1528 : Int32 => ((r_1528 = (x4 - 1) → (∃ n : Nat, wp_L_isTicked_L319 E post n gx_L lt_L mo_L ad_L ln_L PL_L pf_L pw_L pk_L lw_L lk_L ik_L cw_L mw_L x7 x8 x9 x10 x11 x13 x15 x16)) ∧ (¬ (r_1528 = (x4 - 1)) → False))) gx_L lt_L mo_L ad_L ln_L PL_L pf_L pw_L pk_L lw_L lk_L ik_L)))) gx_L lt_L mo_L ad_L ln_L PL_L pf_L pw_L pk_L lw_L lk_L ik_L)))) gx_L lt_L mo_L ad_L ln_L PL_L pf_L pw_L pk_L lw_L lk_L ik_L)))) gx_L lt_L mo_L ad_L ln_L PL_L pf_L pw_L pk_L lw_L lk_L ik_L)) ∧ (¬ (r_1507 = (x6 + 1)) → False))) ∧ (¬ (x13 = 2) → ((r_1507 = (x6 + 0) → (wp_X2_marks E (fun r_1510 : Int32 => ((r_1510 < x7 → False) ∧ (¬ (r_1510 < x7) → (wp_X2_marks E (fun r_1512 : Int32 => (((x7 + 1) < r_1512 → False) ∧ (¬ (x7 + 1) < r_1512 → (wp_X2_queued E (fun r_1514 : Int32 => ((r_1514 = x4 → (∃ n : Nat, wp_L_isTicked_L319 E post n gx_L lt_L mo_L ad_L ln_L PL_L pf_L pw_L pk_L lw_L lk_L ik_L cw_L mw_L x7 x8 x9 x10 x11 x13 x15 x16)) ∧ (¬ (r_1514 = x4) → (wp_X2_queued E (fun r_1517 : Int32 => ((r_1517 = (x4 - 1) → (∃ n : Nat, wp_L_isTicked_L319 E post n gx_L lt_L mo_L ad_L ln_L PL_L pf_L pw_L pk_L lw_L lk_L ik_L cw_L mw_L x7 x8 x9 x10 x11 x13 x15 x16)) ∧ (¬ (r_1517 = (x4 - 1)) → False))) gx_L lt_L mo_L ad_L ln_L PL_L pf_L pw_L pk_L lw_L lk_L ik_L)))) gx_L lt_L mo_L ad_L ln_L PL_L pf_L pw_L pk_L lw_L lk_L ik_L)))) gx_L lt_L mo_L ad_L ln_L PL_L pf_L pw_L pk_L lw_L lk_L ik_L)))) gx_L lt_L mo_L ad_L ln_L PL_L pf_L pw_L pk_L lw_L lk_L ik_L)) ∧ (¬ (r_1507 = (x6 + 0)) → False))))) gx_L lt_L mo_L ad_L ln_L PL_L pf_L pw_L pk_L lw_L lk_L ik_L)) ∧ (¬ (r_1479 = (x5 + 1)) → False))) ∧ (¬ (x13 = 1) → ((r_1479 = (x5 + 0) → (wp_X2_stepsDown E (fun r_1482 : Int32 => ((x13 = 2 → ((r_1482 = (x6 + 1) → (wp_X2_marks E (fun r_1496 : Int32 => ((r_1496 < x7 → False) ∧ (¬ (r_1496 < x7) → (wp_X2_marks E (fun r_1498 : Int32 => (((x7 + 1) < r_1498 → False) ∧ (¬ (x7 + 1) < r_1498 → (wp_X2_queued E (fun r_1500 : Int32 => ((r_1500 = x4 → (∃ n : Nat, wp_L_isTicked_L319 E post n gx_L lt_L mo_L ad_L ln_L PL_L pf_L pw_L pk_L lw_L lk_L ik_L cw_L mw_L x7 x8 x9 x10 x11 x13 x15 x16)) ∧ (¬ (r_1500 = x4) → (wp_X2_queued E (fun r_1503 : Int32 => ((r_1503 = (x4 - 1) → (∃ n : Nat, wp_L_isTicked_L319 E post n gx_L lt_L mo_L ad_L ln_L PL_L pf_L pw_L pk_L lw_L lk_L ik_L cw_L mw_L x7 x8 x9 x10 x11 x13 x15 x16)) ∧ (¬ (r_1503 = (x4 - 1)) → False))) gx_L lt_L mo_L ad_L ln_L PL_L pf_L pw_L pk_L lw_L lk_L ik_L)))) gx_L lt_L mo_L ad_L ln_L PL_L pf_L pw_L pk_L lw_L lk_L ik_L)))) gx_L lt_L mo_L ad_L ln_L PL_L pf_L pw_L pk_L lw_L lk_L ik_L)))) gx_L lt_L mo_L ad_L ln_L PL_L pf_L pw_L pk_L lw_L lk_L ik_L)) ∧ (¬ (r_1482 = (x6 + 1)) → False))) ∧ (¬ (x13 = 2) → ((r_1482 = (x6 + 0) → (wp_X2_marks E (fun r_1485 : Int32 => ((r_1485 < x7 → False) ∧ (¬ (r_1485 < x7) → (wp_X2_marks E (fun r_1487 : Int32 => (((x7 + 1) < r_1487 → False) ∧ (¬ (x7 + 1) < r_1487 → (wp_X2_queued E (fun r_1489 : Int32 => ((r_1489 = x4 → (∃ n : Nat, wp_L_isTicked_L319 E post n gx_L lt_L mo_L ad_L ln_L PL_L pf_L pw_L pk_L lw_L lk_L ik_L cw_L mw_L x7 x8 x9 x10 x11 x13 x15 x16)) ∧ (¬ (r_1489 = x4) → (wp_X2_queued E (fun r_1492 : Int32 => ((r_1492 = (x4 - 1) → (∃ n : Nat, wp_L_isTicked_L319 E post n gx_L lt_L mo_L ad_L ln_L PL_L pf_L pw_L pk_L lw_L lk_L ik_L cw_L mw_L x7 x8 x9 x10 x11 x13 x15 x16)) ∧ (¬ (r_1492 = (x4 - 1)) → False))) gx_L lt_L mo_L ad_L ln_L PL_L pf_L pw_L pk_L lw_L lk_L ik_L)))) gx_L lt_L mo_L ad_L ln_L PL_L pf_L pw_L pk_L lw_L lk_L ik_L)))) gx_L lt_L mo_L ad_L ln_L PL_L pf_L pw_L pk_L lw_L lk_L ik_L)))) gx_L lt_L mo_L ad_L ln_L PL_L pf_L pw_L pk_L lw_L lk_L ik_L)) ∧ (¬ (r_1482 = (x6 + 0)) → False))))) gx_L lt_L mo_L ad_L ln_L PL_L pf_L pw_L pk_L lw_L lk_L ik_L)) ∧ (¬ (r_1479 = (x5 + 0)) → False))))) gx_L lt_L mo_L ad_L ln_L PL_L pf_L pw_L pk_L lw_L lk_L ik_L)) ∧ (¬ (r_1477 = (x3 - 1)) → False))) gx_L lt_L mo_L ad_L ln_L PL_L pf_L pw_L pk_L lw_L lk_L ik_L)) ∧ (¬ (x14 = 1) → False))))
def wp_L_isTicked_L179 (E : EV) (post : Int32 → (Nat → Int32) → Option Nat → Int32 → Nat → Int32 → List Nat → (Nat → va_E) → (Nat → Int64) → Int32 → (Nat → Int64) → Int32 → (Nat → Int32) → (Nat → Int32) → (Nat → Int32) → Prop)  : Nat → (Nat → Int32) → Option Nat → Int32 → Nat → Int32 → List Nat → (Nat → va_E) → (Nat → Int64) → Int32 → (Nat → Int64) → Int32 → (Nat → Int32) → (Nat → Int32) → (Nat → Int32) → Int32 → Int32 → Int32 → Int32 → Int32 → Int32 → Int32 → Int32 → Int32 → Int32 → Int32 → Int32 → Int32 → Prop
  | 0, _, _, _, _, _, _, _, _, _, _, _, _, _, _, _, _, _, _, _, _, _, _, _, _, _, _, _ => False
  | n + 1, gx_L, lt_L, mo_L, ad_L, ln_L, PL_L, pf_L, pw_L, pk_L, lw_L, lk_L, ik_L, cw_L, mw_L, x3, x4, x5, x6, x7, x8, x9, x10, x11, x12, x13, x14, x15 => (wp_X2_queued E (fun r_1400 : Int32 => ((x4 ≤ r_1400 → (∃ n : Nat, wp_L_isTicked_L195 E post n gx_L lt_L mo_L ad_L ln_L PL_L pf_L pw_L pk_L lw_L lk_L ik_L cw_L mw_L x3 x4 x5 x6 x7 x8 x9 x10 x11 x12 x13 x14 x15 0)) ∧ (¬ (x4 ≤ r_1400) → (∃ n : Nat, wp_L_isTicked_L195 E post n gx_L lt_L mo_L ad_L ln_L PL_L pf_L pw_L pk_L lw_L lk_L ik_L cw_L mw_L x3 x4 x5 x6 x7 x8 x9 x10 x11 x12 x13 x14 x15 1)))) gx_L lt_L mo_L ad_L ln_L PL_L pf_L pw_L pk_L lw_L lk_L ik_L)
def wp_L_isTicked_L76 (E : EV) (post : Int32 → (Nat → Int32) → Option Nat → Int32 → Nat → Int32 → List Nat → (Nat → va_E) → (Nat → Int64) → Int32 → (Nat → Int64) → Int32 → (Nat → Int32) → (Nat → Int32) → (Nat → Int32) → Prop)  : Nat → (Nat → Int32) → Option Nat → Int32 → Nat → Int32 → List Nat → (Nat → va_E) → (Nat → Int64) → Int32 → (Nat → Int64) → Int32 → (Nat → Int32) → (Nat → Int32) → (Nat → Int32) → Int32 → Int32 → Int32 → Int32 → Int32 → Int32 → Int32 → Int32 → Int32 → Int32 → Int32 → Prop
  | 0, _, _, _, _, _, _, _, _, _, _, _, _, _, _, _, _, _, _, _, _, _, _, _, _, _ => False
  | n + 1, gx_L, lt_L, mo_L, ad_L, ln_L, PL_L, pf_L, pw_L, pk_L, lw_L, lk_L, ik_L, cw_L, mw_L, x3, x4, x5, x6, x7, x8, x9, x10, x11, x12, x13 => (wp_L_act E (fun (r_1373 : Int32) (gx_1374 : Nat → Int32) (lt_1375 : Option Nat) (mo_1376 : Int32) (ad_1377 : Nat) (ln_1378 : Int32) (PL_1379 : List Nat) (pf_1380 : Nat → va_E) (pw_1381 : Nat → Int64) (pk_1382 : Int32) (lw_1383 : Nat → Int64) (lk_1384 : Int32) (ik_1385 : Nat → Int32) => ((x13 = 0 → ((r_1373 = 0 → (wp_X2_timeLeft E (fun r_1388 : Int32 => ((r_1388 = x3 → (wp_X2_at E (fun r_1390 : Int32 => ((r_1390 = x10 → (wp_X2_marks E (fun r_1392 : Int32 => ((r_1392 = x7 → (wp_X2_stepsUp E (fun r_1394 : Int32 => ((r_1394 = x5 → (wp_X2_stepsDown E (fun r_1396 : Int32 => ((r_1396 = x6 → post 1 gx_1374 lt_1375 mo_1376 ad_1377 ln_1378 PL_1379 pf_1380 pw_1381 pk_1382 lw_1383 lk_1384 ik_1385 cw_L mw_L) ∧ (¬ (r_1396 = x6) → False))) gx_1374 lt_1375 mo_1376 ad_1377 ln_1378 PL_1379 pf_1380 pw_1381 pk_1382 lw_1383 lk_1384 ik_1385)) ∧ (¬ (r_1394 = x5) → False))) gx_1374 lt_1375 mo_1376 ad_1377 ln_1378 PL_1379 pf_1380 pw_1381 pk_1382 lw_1383 lk_1384 ik_1385)) ∧ (¬ (r_1392 = x7) → False))) gx_1374 lt_1375 mo_1376 ad_1377 ln_1378 PL_1379 pf_1380 pw_1381 pk_1382 lw_1383 lk_1384 ik_1385)) ∧ (¬ (r_1390 = x10) → False))) gx_1374 lt_1375 mo_1376 ad_1377 ln_1378 PL_1379 pf_1380 pw_1381 pk_1382 lw_1383 lk_1384 ik_1385)) ∧ (¬ (r_1388 = x3) → False))) gx_1374 lt_1375 mo_1376 ad_1377 ln_1378 PL_1379 pf_1380 pw_1381 pk_1382 lw_1383 lk_1384 ik_1385)) ∧ (¬ (r_1373 = 0) → False))) ∧ (¬ (x13 = 0) → ((x12 = 0 → ((x13 = 3 → (∃ n : Nat, wp_L_isTicked_L179 E post n gx_1374 lt_1375 mo_1376 ad_1377 ln_1378 PL_1379 pf_1380 pw_1381 pk_1382 lw_1383 lk_1384 ik_1385 cw_L mw_L x3 x4 x5 x6 x7 x8 x9 x10 x11 x12 x13 r_1373 0)) ∧ (¬ (x13 = 3) → ((x13 = 2 → ((x11 = 1 → (∃ n : Nat, wp_L_isTicked_L179 E post n gx_1374 lt_1375 mo_1376 ad_1377 ln_1378 PL_1379 pf_1380 pw_1381 pk_1382 lw_1383 lk_1384 ik_1385 cw_L mw_L x3 x4 x5 x6 x7 x8 x9 x10 x11 x12 x13 r_1373 1)) ∧ (¬ (x11 = 1) → (∃ n : Nat, wp_L_isTicked_L179 E post n gx_1374 lt_1375 mo_1376 ad_1377 ln_1378 PL_1379 pf_1380 pw_1381 pk_1382 lw_1383 lk_1384 ik_1385 cw_L mw_L x3 x4 x5 x6 x7 x8 x9 x10 x11 x12 x13 r_1373 0)))) ∧ (¬ (x13 = 2) → ((x11 = 0 → (∃ n : Nat, wp_L_isTicked_L179 E post n gx_1374 lt_1375 mo_1376 ad_1377 ln_1378 PL_1379 pf_1380 pw_1381 pk_1382 lw_1383 lk_1384 ik_1385 cw_L mw_L x3 x4 x5 x6 x7 x8 x9 x10 x11 x12 x13 r_1373 1)) ∧ (¬ (x11 = 0) → (∃ n : Nat, wp_L_isTicked_L179 E post n gx_1374 lt_1375 mo_1376 ad_1377 ln_1378 PL_1379 pf_1380 pw_1381 pk_1382 lw_1383 lk_1384 ik_1385 cw_L mw_L x3 x4 x5 x6 x7 x8 x9 x10 x11 x12 x13 r_1373 0)))))))) ∧ (¬ (x12 = 0) → ((r_1373 = 0 → (wp_X2_timeLeft E (fun r_1542 : Int32 => ((r_1542 = x3 → (wp_X2_at E (fun r_1544 : Int32 => ((r_1544 = x10 → (wp_X2_marks E (fun r_1546 : Int32 => ((r_1546 = x7 → (wp_X2_stepsUp E (fun r_1548 : Int32 => ((r_1548 = x5 → (wp_X2_stepsDown E (fun r_1550 : Int32 => ((r_1550 = x6 → post 1 gx_1374 lt_1375 mo_1376 ad_1377 ln_1378 PL_1379 pf_1380 pw_1381 pk_1382 lw_1383 lk_1384 ik_1385 cw_L mw_L) ∧ (¬ (r_1550 = x6) → False))) gx_1374 lt_1375 mo_1376 ad_1377 ln_1378 PL_1379 pf_1380 pw_1381 pk_1382 lw_1383 lk_1384 ik_1385)) ∧ (¬ (r_1548 = x5) → False))) gx_1374 lt_1375 mo_1376 ad_1377 ln_1378 PL_1379 pf_1380 pw_1381 pk_1382 lw_1383 lk_1384 ik_1385)) ∧ (¬ (r_1546 = x7) → False))) gx_1374 lt_1375 mo_1376 ad_1377 ln_1378 PL_1379 pf_1380 pw_1381 pk_1382 lw_1383 lk_1384 ik_1385)) ∧ (¬ (r_1544 = x10) → False))) gx_1374 lt_1375 mo_1376 ad_1377 ln_1378 PL_1379 pf_1380 pw_1381 pk_1382 lw_1383 lk_1384 ik_1385)) ∧ (¬ (r_1542 = x3) → False))) gx_1374 lt_1375 mo_1376 ad_1377 ln_1378 PL_1379 pf_1380 pw_1381 pk_1382 lw_1383 lk_1384 ik_1385)) ∧ (¬ (r_1373 = 0) → False))))))) gx_L lt_L mo_L ad_L ln_L PL_L pf_L pw_L pk_L lw_L lk_L ik_L 1 1 0)
def wp_L_isTicked (E : EV) (post : Int32 → (Nat → Int32) → Option Nat → Int32 → Nat → Int32 → List Nat → (Nat → va_E) → (Nat → Int64) → Int32 → (Nat → Int64) → Int32 → (Nat → Int32) → (Nat → Int32) → (Nat → Int32) → Prop) (gx : Nat → Int32) (lt : Option Nat) (mo : Int32) (ad : Nat) (ln : Int32) (PL : List Nat) (pf : Nat → va_E) (pw : Nat → Int64) (pk : Int32) (lw : Nat → Int64) (lk : Int32) (ik : Nat → Int32) (cw : Nat → Int32) (mw : Nat → Int32) : Prop := (wp_X2_timeLeft E (fun r_1362 : Int32 => (wp_X2_queued E (fun r_1363 : Int32 => (wp_X2_stepsUp E (fun r_1364 : Int32 => (wp_X2_stepsDown E (fun r_1365 : Int32 => (wp_X2_marks E (fun r_1366 : Int32 => (wp_X2_pen E (fun r_1367 : Int32 => (wp_X2_ink_r E (fun r_1368 : Int32 => (wp_X2_at E (fun r_1369 : Int32 => (wp_X2_isDown E (fun r_1370 : Int32 => (wp_X2_isWaiting E (fun r_1371 : Int32 => (((mw (0 : Int32).toNatClampNeg) = 0 → (∃ n : Nat, wp_L_isTicked_L76 E post n gx lt mo ad ln PL pf pw pk lw lk ik cw mw r_1362 r_1363 r_1364 r_1365 r_1366 r_1367 r_1368 r_1369 r_1370 r_1371 0)) ∧ (¬ (mw (0 : Int32).toNatClampNeg) = 0 → (∃ n : Nat, wp_L_isTicked_L76 E post n gx lt mo ad ln PL pf pw pk lw lk ik cw mw r_1362 r_1363 r_1364 r_1365 r_1366 r_1367 r_1368 r_1369 r_1370 r_1371 (cw (0 : Int32).toNatClampNeg))))) gx lt mo ad ln PL pf pw pk lw lk ik)) gx lt mo ad ln PL pf pw pk lw lk ik)) gx lt mo ad ln PL pf pw pk lw lk ik)) gx lt mo ad ln PL pf pw pk lw lk ik r_1367)) gx lt mo ad ln PL pf pw pk lw lk ik)) gx lt mo ad ln PL pf pw pk lw lk ik)) gx lt mo ad ln PL pf pw pk lw lk ik)) gx lt mo ad ln PL pf pw pk lw lk ik)) gx lt mo ad ln PL pf pw pk lw lk ik)) gx lt mo ad ln PL pf pw pk lw lk ik)
set_option maxHeartbeats 4000000 in
set_option maxRecDepth 100000 in
theorem c_L_isTicked (E : EV) (l : Launch) (ax : Nat → Nat) (bx : Nat → Nat) (gx : Nat → Int32) (lt : Option Nat) (mo : Int32) (ad : Nat) (ln : Int32) (PL : List Nat) (pf : Nat → va_E) (pw : Nat → Int64) (pk : Int32) (lw : Nat → Int64) (lk : Int32) (ik : Nat → Int32) (cw : Nat → Int32) (mw : Nat → Int32) (hz : Nat) (post : Int32 → (Nat → Int32) → Option Nat → Int32 → Nat → Int32 → List Nat → (Nat → va_E) → (Nat → Int64) → Int32 → (Nat → Int64) → Int32 → (Nat → Int32) → (Nat → Int32) → (Nat → Int32) → Prop) (hw : wp_L_isTicked E post gx lt mo ad ln PL pf pw pk lw lk ik cw mw) (hst : l.stackTraces = false) : Met l yL_isTicked (Cond.code yL_isTicked cL_isTicked 18 (some .boolean) :: ALLW) ({ frames := 13, cells := 9, slots := 288, locals := 279 } : Room) (va_Pc [.ref (ax 0), .ref (bx 0), .ref (bx 1)] (preM E (wLP E ax bx gx lt mo ad ln PL pf pw pk lw lk ik cw mw) hz)) (va_Qi (fun (r : Int32) (u : (Nat → Int32) × Option Nat × Int32 × Nat × Int32 × List Nat × (Nat → va_E) × (Nat → Int64) × Int32 × (Nat → Int64) × Int32 × (Nat → Int32) × (Nat → Int32) × (Nat → Int32)) => post r u.1 u.2.1 u.2.2.1 u.2.2.2.1 u.2.2.2.2.1 u.2.2.2.2.2.1 u.2.2.2.2.2.2.1 u.2.2.2.2.2.2.2.1 u.2.2.2.2.2.2.2.2.1 u.2.2.2.2.2.2.2.2.2.1 u.2.2.2.2.2.2.2.2.2.2.1 u.2.2.2.2.2.2.2.2.2.2.2.1 u.2.2.2.2.2.2.2.2.2.2.2.2.1 u.2.2.2.2.2.2.2.2.2.2.2.2.2) (fun (u : (Nat → Int32) × Option Nat × Int32 × Nat × Int32 × List Nat × (Nat → va_E) × (Nat → Int64) × Int32 × (Nat → Int64) × Int32 × (Nat → Int32) × (Nat → Int32) × (Nat → Int32)) t => va_P (eD E) vwCl (wLP E ax bx u.1 u.2.1 u.2.2.1 u.2.2.2.1 u.2.2.2.2.1 u.2.2.2.2.2.1 u.2.2.2.2.2.2.1 u.2.2.2.2.2.2.2.1 u.2.2.2.2.2.2.2.2.1 u.2.2.2.2.2.2.2.2.2.1 u.2.2.2.2.2.2.2.2.2.2.1 u.2.2.2.2.2.2.2.2.2.2.2.1 u.2.2.2.2.2.2.2.2.2.2.2.2.1 u.2.2.2.2.2.2.2.2.2.2.2.2.2) t.heap ∧ va_D (va_A (wLP E ax bx gx lt mo ad ln PL pf pw pk lw lk ik cw mw) hz) (wLP E ax bx u.1 u.2.1 u.2.2.1 u.2.2.2.1 u.2.2.2.2.1 u.2.2.2.2.2.1 u.2.2.2.2.2.2.1 u.2.2.2.2.2.2.2.1 u.2.2.2.2.2.2.2.2.1 u.2.2.2.2.2.2.2.2.2.1 u.2.2.2.2.2.2.2.2.2.2.1 u.2.2.2.2.2.2.2.2.2.2.2.1 u.2.2.2.2.2.2.2.2.2.2.2.2.1 u.2.2.2.2.2.2.2.2.2.2.2.2.2)) (va_A (wLP E ax bx gx lt mo ad ln PL pf pw pk lw lk ik cw mw) hz)) 9 288 (va_A (wLP E ax bx gx lt mo ad ln PL pf pw pk lw lk ik cw mw) hz) := by
  refine Met.ofW (cc := cL_isTicked) (maxL := 18) (ret := (some .boolean)) (by decide) rfl ?_
  intro p e s m args below meth c s₁ B hml hv
  obtain ⟨rfl, hpre⟩ := hv
  have hx := B.exec
  have hb := B.bytes
  have hr := B.returns
  have hlocks := B.notSynchronized
  have hts := atoms_spec (ws := (Cond.code yL_isTicked cL_isTicked 18 (some .boolean) :: ALLW)) B.pre
  have hta : ∀ w ∈ ALLW, w.before ([.ref (ax 0), .ref (bx 0), .ref (bx 1)] : List Value).toArray s = true := fun w h => hts w (List.mem_cons_of_mem _ h)
  have hown : s.vm.findClass RL = some m.cls := findClass_of_methodNamed B.named
  obtain ⟨hsz, hP, hKE, hD0, hZ⟩ := hpre
  subst hsz
  have hD := hD0.self (sz := s.heap.size)
  generalize hAe : va_A (wLP E ax bx gx lt mo ad ln PL pf pw pk lw lk ik cw mw) s.heap.size = A at hD hZ ⊢
  have hA : ∀ q : Nat, s.heap.size ≤ q → A q := fun q h => by rw [← hAe]; exact Or.inr h
  have hS : va_S A s.heap s.heap [] := va_S.rf
  have hP : va_P (eD E) vwCl ([((ax 0), .inr (3, [.ref (ax 1), .ref (ax 2), .ref (ax 4), .ref (ax 6), .int (gx 4), .int (gx 5), .int (gx 6), .int (gx 7), va_rf lt, .int (gx 9), .int (gx 10), .int (gx 11), .int (gx 12), .int (gx 13), .int (gx 14), .int (gx 15), .int (gx 16), .int (gx 17), .int (gx 18)])), ((ax 1), .inr (0, [.int mo, .ref ad, .int ln])), ((ax 2), .inr (2, [.ref (ax 3), .int pk])), ((ax 3), .inl (eC E 1, 157, .inr (.inl pw))), ((ax 4), .inr (2, [.ref (ax 5), .int lk])), ((ax 5), .inl (eC E 1, 157, .inr (.inl lw))), ((ax 6), .inl (eC E 0, 3, .inl ik)), ((bx 0), .inl (eC E 0, 64, .inl cw)), ((bx 1), .inl (eC E 0, 8, .inl mw))] ++ va_pl PL pf) s.heap := hP
  have hD : va_D A ([((ax 0), .inr (3, [.ref (ax 1), .ref (ax 2), .ref (ax 4), .ref (ax 6), .int (gx 4), .int (gx 5), .int (gx 6), .int (gx 7), va_rf lt, .int (gx 9), .int (gx 10), .int (gx 11), .int (gx 12), .int (gx 13), .int (gx 14), .int (gx 15), .int (gx 16), .int (gx 17), .int (gx 18)])), ((ax 1), .inr (0, [.int mo, .ref ad, .int ln])), ((ax 2), .inr (2, [.ref (ax 3), .int pk])), ((ax 3), .inl (eC E 1, 157, .inr (.inl pw))), ((ax 4), .inr (2, [.ref (ax 5), .int lk])), ((ax 5), .inl (eC E 1, 157, .inr (.inl lw))), ((ax 6), .inl (eC E 0, 3, .inl ik)), ((bx 0), .inl (eC E 0, 64, .inl cw)), ((bx 1), .inl (eC E 0, 8, .inl mw))] ++ va_pl PL pf) := hD
  have hl := lv_entry ([.ref (ax 0), .ref (bx 0), .ref (bx 1)]) (n := 18) (Nat.le_of_ble_eq_true rfl)
  rw [lg_entry_eq]
  generalize (lg_sl ([.ref (ax 0), .ref (bx 0), .ref (bx 1)]) ++ List.replicate (18 - (lg_sl ([.ref (ax 0), .ref (bx 0), .ref (bx 1)])).length) Slot.unset).toArray = ls at hl ⊢
  have hl : lv_has ls 18 [(0, .ref (ax 0)), (1, .ref (bx 0)), (2, .ref (bx 1))] := hl
  have loop_494 : ∀ (n : Nat) (gx_L : Nat → Int32) (lt_L : Option Nat) (mo_L : Int32) (ad_L : Nat) (ln_L : Int32) (PL_L : List Nat) (pf_L : Nat → va_E) (pw_L : Nat → Int64) (pk_L : Int32) (lw_L : Nat → Int64) (lk_L : Int32) (ik_L : Nat → Int32) (cw_L : Nat → Int32) (mw_L : Nat → Int32) (x13 : Int32) (x15 : Int32) (x16 : Int32), wp_L_isTicked_L494 E post n gx_L lt_L mo_L ad_L ln_L PL_L pf_L pw_L pk_L lw_L lk_L ik_L cw_L mw_L x13 x15 x16 → ∀ (H : Heap) (locs : List Loc), va_P (eD E) vwCl ([((ax 0), .inr (3, [.ref (ax 1), .ref (ax 2), .ref (ax 4), .ref (ax 6), .int (gx_L 4), .int (gx_L 5), .int (gx_L 6), .int (gx_L 7), va_rf lt_L, .int (gx_L 9), .int (gx_L 10), .int (gx_L 11), .int (gx_L 12), .int (gx_L 13), .int (gx_L 14), .int (gx_L 15), .int (gx_L 16), .int (gx_L 17), .int (gx_L 18)])), ((ax 1), .inr (0, [.int mo_L, .ref ad_L, .int ln_L])), ((ax 2), .inr (2, [.ref (ax 3), .int pk_L])), ((ax 3), .inl (eC E 1, 157, .inr (.inl pw_L))), ((ax 4), .inr (2, [.ref (ax 5), .int lk_L])), ((ax 5), .inl (eC E 1, 157, .inr (.inl lw_L))), ((ax 6), .inl (eC E 0, 3, .inl ik_L)), ((bx 0), .inl (eC E 0, 64, .inl cw_L)), ((bx 1), .inl (eC E 0, 8, .inl mw_L))] ++ va_pl PL_L pf_L) H → va_D A ([((ax 0), .inr (3, [.ref (ax 1), .ref (ax 2), .ref (ax 4), .ref (ax 6), .int (gx_L 4), .int (gx_L 5), .int (gx_L 6), .int (gx_L 7), va_rf lt_L, .int (gx_L 9), .int (gx_L 10), .int (gx_L 11), .int (gx_L 12), .int (gx_L 13), .int (gx_L 14), .int (gx_L 15), .int (gx_L 16), .int (gx_L 17), .int (gx_L 18)])), ((ax 1), .inr (0, [.int mo_L, .ref ad_L, .int ln_L])), ((ax 2), .inr (2, [.ref (ax 3), .int pk_L])), ((ax 3), .inl (eC E 1, 157, .inr (.inl pw_L))), ((ax 4), .inr (2, [.ref (ax 5), .int lk_L])), ((ax 5), .inl (eC E 1, 157, .inr (.inl lw_L))), ((ax 6), .inl (eC E 0, 3, .inl ik_L)), ((bx 0), .inl (eC E 0, 64, .inl cw_L)), ((bx 1), .inl (eC E 0, 8, .inl mw_L))] ++ va_pl PL_L pf_L) → va_S A s.heap H locs → ∀ (ls : Array Slot), lv_has ls 18 [(0, .ref (ax 0)), (1, .ref (bx 0)), (2, .ref (bx 1)), (13, .int x13), (15, .int x15), (16, .int x16), (17, .int 1)] → W p l e (headSpec (Cond.code yL_isTicked cL_isTicked 18 (some .boolean) :: ALLW) ({ frames := 13, cells := 9, slots := 288, locals := 279 } : Room)).room s m ([.ref (ax 0), .ref (bx 0), .ref (bx 1)] : List Value).toArray below meth c H locs 9 288 (MQ below (va_Qi (fun (r : Int32) (u : (Nat → Int32) × Option Nat × Int32 × Nat × Int32 × List Nat × (Nat → va_E) × (Nat → Int64) × Int32 × (Nat → Int64) × Int32 × (Nat → Int32) × (Nat → Int32) × (Nat → Int32)) => post r u.1 u.2.1 u.2.2.1 u.2.2.2.1 u.2.2.2.2.1 u.2.2.2.2.2.1 u.2.2.2.2.2.2.1 u.2.2.2.2.2.2.2.1 u.2.2.2.2.2.2.2.2.1 u.2.2.2.2.2.2.2.2.2.1 u.2.2.2.2.2.2.2.2.2.2.1 u.2.2.2.2.2.2.2.2.2.2.2.1 u.2.2.2.2.2.2.2.2.2.2.2.2.1 u.2.2.2.2.2.2.2.2.2.2.2.2.2) (fun (u : (Nat → Int32) × Option Nat × Int32 × Nat × Int32 × List Nat × (Nat → va_E) × (Nat → Int64) × Int32 × (Nat → Int64) × Int32 × (Nat → Int32) × (Nat → Int32) × (Nat → Int32)) t => va_P (eD E) vwCl (wLP E ax bx u.1 u.2.1 u.2.2.1 u.2.2.2.1 u.2.2.2.2.1 u.2.2.2.2.2.1 u.2.2.2.2.2.2.1 u.2.2.2.2.2.2.2.1 u.2.2.2.2.2.2.2.2.1 u.2.2.2.2.2.2.2.2.2.1 u.2.2.2.2.2.2.2.2.2.2.1 u.2.2.2.2.2.2.2.2.2.2.2.1 u.2.2.2.2.2.2.2.2.2.2.2.2.1 u.2.2.2.2.2.2.2.2.2.2.2.2.2) t.heap ∧ va_D A (wLP E ax bx u.1 u.2.1 u.2.2.1 u.2.2.2.1 u.2.2.2.2.1 u.2.2.2.2.2.1 u.2.2.2.2.2.2.1 u.2.2.2.2.2.2.2.1 u.2.2.2.2.2.2.2.2.1 u.2.2.2.2.2.2.2.2.2.1 u.2.2.2.2.2.2.2.2.2.2.1 u.2.2.2.2.2.2.2.2.2.2.2.1 u.2.2.2.2.2.2.2.2.2.2.2.2.1 u.2.2.2.2.2.2.2.2.2.2.2.2.2)) A) ([.ref (ax 0), .ref (bx 0), .ref (bx 1)] : List Value).toArray s 9 288 A) (F0 m 494 ls []) := by
    intro n
    induction n with
    | zero => intro gx_L lt_L mo_L ad_L ln_L PL_L pf_L pw_L pk_L lw_L lk_L ik_L cw_L mw_L x13 x15 x16 hw; exact hw.elim
    | succ n ih =>
      intro gx_L lt_L mo_L ad_L ln_L PL_L pf_L pw_L pk_L lw_L lk_L ik_L cw_L mw_L x13 x15 x16 hw H locs hP hD hS ls hl
      unfold wp_L_isTicked_L494 at hw
      refine lv_iload hx hb dL_isTicked_494 (lv_at hl 5 rfl) ?_
      refine lv_if_eq (tgt := 540) hx hb dL_isTicked_496 (by decide) (fun c_1425 => ?_) (fun c_1425 => ?_)
      · have hw := hw.1 c_1425
        refine lv_iload hx hb dL_isTicked_540 (lv_at hl 6 rfl) ?_
        have hP9 : va_P (eD E) vwCl (wLP E ax bx gx_L lt_L mo_L ad_L ln_L PL_L pf_L pw_L pk_L lw_L lk_L ik_L cw_L mw_L) H := hP
        have hD9 : va_D A (wLP E ax bx gx_L lt_L mo_L ad_L ln_L PL_L pf_L pw_L pk_L lw_L lk_L ik_L cw_L mw_L) := hD
        exact W.zret (v := 1) hx hb hr rfl (fun t ht hW => ⟨⟨1, (gx_L, lt_L, mo_L, ad_L, ln_L, PL_L, pf_L, pw_L, pk_L, lw_L, lk_L, ik_L, cw_L, mw_L), rfl, hw, ⟨by rw [ht]; exact hP9, hD9⟩⟩, hS.F ht⟩) hS.2.2 dL_isTicked_542
      · have hw := hw.2 c_1425
        refine lv_iload hx hb dL_isTicked_499 (lv_at hl 6 rfl) ?_
        refine lv_if_eq (tgt := 532) hx hb dL_isTicked_501 (by decide) (fun c9 => absurd c9 (by decide)) (fun _ => ?_)
        refine lv_iload hx hb dL_isTicked_504 (lv_at hl 3 rfl) ?_
        refine lv_iconst (v := 3) hx hb dL_isTicked_506 (by decide) ?_
        refine lv_icmp_ne (tgt := 523) hx hb dL_isTicked_507 (by decide) (fun c_1426 => ?_) (fun c_1426 => ?_)
        · have hw := hw.2 c_1426
          refine lv_iload hx hb dL_isTicked_523 (lv_at hl 4 rfl) ?_
          refine lv_if_eq (tgt := 532) hx hb dL_isTicked_525 (by decide) (fun c_1427 => ?_) (fun c_1427 => ?_)
          · have hw := hw.1 c_1427
            exact hw.elim
          · have hw := hw.2 c_1427
            refine lv_iconst (v := 1) hx hb dL_isTicked_528 (by decide) ?_
            refine lv_goto (tgt := 533) hx hb dL_isTicked_529 (by decide) ?_
            refine lv_istore (lv' := [(17, .int 1), (0, .ref (ax 0)), (1, .ref (bx 0)), (2, .ref (bx 1)), (13, .int x13), (15, .int x15), (16, .int x16)]) hx hb dL_isTicked_533 hl (by decide) rfl (fun ls hl => ?_)
            refine lv_aload_n hx hb dL_isTicked_535 rfl (lv_at hl 2 rfl) ?_
            refine lv_aload_n hx hb dL_isTicked_536 rfl (lv_at hl 3 rfl) ?_
            have hPc : va_P (eD E) vwCl (wCM E bx cw_L mw_L) H := hP.sub [7, 8] rfl
            have hDc : va_D A (wCM E bx cw_L mw_L) := hD.sub [7, 8] (by decide) rfl
            have hFc : ∀ q, va_A (wCM E bx cw_L mw_L) H.size q → A q := va_free hD hS hA [7, 8] rfl
            refine va_callv (va_runS (As := [.ref (bx 0), .ref (bx 1)]) (rest := []) ⟨hx, hb, hml, hown, hta⟩ (c_L_moves E l bx cw_L mw_L H.size _ hw) (pcS (n := 2) hta tw_578 tw_576 tw_0 tw_577 rfl rfl hd_L_moves ⟨Nat.le_of_ble_eq_true rfl, Nat.le_of_ble_eq_true rfl⟩) ⟨fbM, fun U hU hW => ⟨rfl, preM.mk hPc hKE hDc hZ hS hFc hU hW⟩⟩ rfl rfl hl.1 rfl (lv_room (Nat.le_of_ble_eq_true rfl)) dL_isTicked_537 ⟨Nat.le_of_ble_eq_true rfl, Nat.le_of_ble_eq_true rfl⟩) hS (fun q _ h => hFc q h) hFc (fun u t H locs ht hvm hw hB hz1 hk1 hS => ?_)
            obtain ⟨cw_1429, mw_1430⟩ := u
            obtain ⟨hP1, hD1⟩ := hB
            rw [ht] at hP1
            try dsimp only at hw hP1 hD1
            obtain ⟨hP, hD⟩ := jnI (ws1 := ([((ax 0), .inr (3, [.ref (ax 1), .ref (ax 2), .ref (ax 4), .ref (ax 6), .int (gx_L 4), .int (gx_L 5), .int (gx_L 6), .int (gx_L 7), va_rf lt_L, .int (gx_L 9), .int (gx_L 10), .int (gx_L 11), .int (gx_L 12), .int (gx_L 13), .int (gx_L 14), .int (gx_L 15), .int (gx_L 16), .int (gx_L 17), .int (gx_L 18)])), ((ax 1), .inr (0, [.int mo_L, .ref ad_L, .int ln_L])), ((ax 2), .inr (2, [.ref (ax 3), .int pk_L])), ((ax 3), .inl (eC E 1, 157, .inr (.inl pw_L))), ((ax 4), .inr (2, [.ref (ax 5), .int lk_L])), ((ax 5), .inl (eC E 1, 157, .inr (.inl lw_L))), ((ax 6), .inl (eC E 0, 3, .inl ik_L)), ((bx 0), .inl (eC E 0, 64, .inl cw_1429)), ((bx 1), .inl (eC E 0, 8, .inl mw_1430))] ++ va_pl PL_L pf_L)) hP hD [7, 8] rfl hk1 hP1 rfl (by intro k hk; rcases k with _ | _ | _ | _ | _ | _ | _ | _ | _ | k <;> first | rfl | simp at hk) (by intro j i hj; rcases j with _ | _ | j <;> first | (cases hj; rfl) | cases hj)
            refine lv_iload hx hb dL_isTicked_540 (lv_at hl 0 rfl) ?_
            have hP9 : va_P (eD E) vwCl (wLP E ax bx gx_L lt_L mo_L ad_L ln_L PL_L pf_L pw_L pk_L lw_L lk_L ik_L cw_1429 mw_1430) H := hP
            have hD9 : va_D A (wLP E ax bx gx_L lt_L mo_L ad_L ln_L PL_L pf_L pw_L pk_L lw_L lk_L ik_L cw_1429 mw_1430) := hD
            exact W.zret (v := 1) hx hb hr rfl (fun t ht hW => ⟨⟨1, (gx_L, lt_L, mo_L, ad_L, ln_L, PL_L, pf_L, pw_L, pk_L, lw_L, lk_L, ik_L, cw_1429, mw_1430), rfl, hw, ⟨by rw [ht]; exact hP9, hD9⟩⟩, hS.F ht⟩) hS.2.2 dL_isTicked_542
        · have hw := hw.1 c_1426
          refine lv_aload_n hx hb dL_isTicked_510 rfl (lv_at hl 0 rfl) ?_
          have hPc : va_P (eD E) vwCl (wX E ax gx_L lt_L mo_L ad_L ln_L PL_L pf_L pw_L pk_L lw_L lk_L ik_L) H := hP.part [0, 1, 2, 3, 4, 5, 6] rfl
          refine vp_callSi (va_Run.run (va_runV (As := []) (rest := []) ⟨hx, hb, hml, hown, hta⟩ (c_X2_pen E l ax gx_L lt_L mo_L ad_L ln_L PL_L pf_L pw_L pk_L lw_L lk_L ik_L _ hw) (pcV (n := 0) hta tw_137 tw_134 tw_1 tw_135 tw_136 rfl rfl hd_X2_pen ⟨Nat.le_of_ble_eq_true rfl, Nat.le_of_ble_eq_true rfl⟩) ⟨fbR, va_recv hKE.1 hP (ci := 3) (q0 := 0) rfl rfl, fun U hU hW => ⟨rfl, preR.mk hPc hKE hU hW⟩⟩ rfl rfl hl.1 rfl (lv_room (Nat.le_of_ble_eq_true rfl)) dL_isTicked_511 ⟨Nat.le_of_ble_eq_true rfl, Nat.le_of_ble_eq_true rfl⟩)) (fun r_1431 hw => ?_)
          refine lv_aload_n hx hb dL_isTicked_514 rfl (lv_at hl 1 rfl) ?_
          refine lv_iconst (v := 1) hx hb dL_isTicked_515 (by decide) ?_
          refine va_iald hx hb hKE.1 hP 7 0 rfl rfl (show vp_in 1 64 from by unfold vp_in; decide) dL_isTicked_516 ?_
          refine lv_icmp_ne (tgt := 532) hx hb dL_isTicked_517 (by decide) (fun c_1432 => ?_) (fun c_1432 => ?_)
          · have hw := hw.2 c_1432
            exact hw.elim
          · have hw := hw.1 c_1432
            refine lv_goto (tgt := 528) hx hb dL_isTicked_520 (by decide) ?_
            refine lv_iconst (v := 1) hx hb dL_isTicked_528 (by decide) ?_
            refine lv_goto (tgt := 533) hx hb dL_isTicked_529 (by decide) ?_
            refine lv_istore (lv' := [(17, .int 1), (0, .ref (ax 0)), (1, .ref (bx 0)), (2, .ref (bx 1)), (13, .int x13), (15, .int x15), (16, .int x16)]) hx hb dL_isTicked_533 hl (by decide) rfl (fun ls hl => ?_)
            refine lv_aload_n hx hb dL_isTicked_535 rfl (lv_at hl 2 rfl) ?_
            refine lv_aload_n hx hb dL_isTicked_536 rfl (lv_at hl 3 rfl) ?_
            have hPc : va_P (eD E) vwCl (wCM E bx cw_L mw_L) H := hP.sub [7, 8] rfl
            have hDc : va_D A (wCM E bx cw_L mw_L) := hD.sub [7, 8] (by decide) rfl
            have hFc : ∀ q, va_A (wCM E bx cw_L mw_L) H.size q → A q := va_free hD hS hA [7, 8] rfl
            refine va_callv (va_runS (As := [.ref (bx 0), .ref (bx 1)]) (rest := []) ⟨hx, hb, hml, hown, hta⟩ (c_L_moves E l bx cw_L mw_L H.size _ hw) (pcS (n := 2) hta tw_578 tw_576 tw_0 tw_577 rfl rfl hd_L_moves ⟨Nat.le_of_ble_eq_true rfl, Nat.le_of_ble_eq_true rfl⟩) ⟨fbM, fun U hU hW => ⟨rfl, preM.mk hPc hKE hDc hZ hS hFc hU hW⟩⟩ rfl rfl hl.1 rfl (lv_room (Nat.le_of_ble_eq_true rfl)) dL_isTicked_537 ⟨Nat.le_of_ble_eq_true rfl, Nat.le_of_ble_eq_true rfl⟩) hS (fun q _ h => hFc q h) hFc (fun u t H locs ht hvm hw hB hz1 hk1 hS => ?_)
            obtain ⟨cw_1434, mw_1435⟩ := u
            obtain ⟨hP1, hD1⟩ := hB
            rw [ht] at hP1
            try dsimp only at hw hP1 hD1
            obtain ⟨hP, hD⟩ := jnI (ws1 := ([((ax 0), .inr (3, [.ref (ax 1), .ref (ax 2), .ref (ax 4), .ref (ax 6), .int (gx_L 4), .int (gx_L 5), .int (gx_L 6), .int (gx_L 7), va_rf lt_L, .int (gx_L 9), .int (gx_L 10), .int (gx_L 11), .int (gx_L 12), .int (gx_L 13), .int (gx_L 14), .int (gx_L 15), .int (gx_L 16), .int (gx_L 17), .int (gx_L 18)])), ((ax 1), .inr (0, [.int mo_L, .ref ad_L, .int ln_L])), ((ax 2), .inr (2, [.ref (ax 3), .int pk_L])), ((ax 3), .inl (eC E 1, 157, .inr (.inl pw_L))), ((ax 4), .inr (2, [.ref (ax 5), .int lk_L])), ((ax 5), .inl (eC E 1, 157, .inr (.inl lw_L))), ((ax 6), .inl (eC E 0, 3, .inl ik_L)), ((bx 0), .inl (eC E 0, 64, .inl cw_1434)), ((bx 1), .inl (eC E 0, 8, .inl mw_1435))] ++ va_pl PL_L pf_L)) hP hD [7, 8] rfl hk1 hP1 rfl (by intro k hk; rcases k with _ | _ | _ | _ | _ | _ | _ | _ | _ | k <;> first | rfl | simp at hk) (by intro j i hj; rcases j with _ | _ | j <;> first | (cases hj; rfl) | cases hj)
            refine lv_iload hx hb dL_isTicked_540 (lv_at hl 0 rfl) ?_
            have hP9 : va_P (eD E) vwCl (wLP E ax bx gx_L lt_L mo_L ad_L ln_L PL_L pf_L pw_L pk_L lw_L lk_L ik_L cw_1434 mw_1435) H := hP
            have hD9 : va_D A (wLP E ax bx gx_L lt_L mo_L ad_L ln_L PL_L pf_L pw_L pk_L lw_L lk_L ik_L cw_1434 mw_1435) := hD
            exact W.zret (v := 1) hx hb hr rfl (fun t ht hW => ⟨⟨1, (gx_L, lt_L, mo_L, ad_L, ln_L, PL_L, pf_L, pw_L, pk_L, lw_L, lk_L, ik_L, cw_1434, mw_1435), rfl, hw, ⟨by rw [ht]; exact hP9, hD9⟩⟩, hS.F ht⟩) hS.2.2 dL_isTicked_542
  have loop_319 : ∀ (n : Nat) (gx_L : Nat → Int32) (lt_L : Option Nat) (mo_L : Int32) (ad_L : Nat) (ln_L : Int32) (PL_L : List Nat) (pf_L : Nat → va_E) (pw_L : Nat → Int64) (pk_L : Int32) (lw_L : Nat → Int64) (lk_L : Int32) (ik_L : Nat → Int32) (cw_L : Nat → Int32) (mw_L : Nat → Int32) (x7 : Int32) (x8 : Int32) (x9 : Int32) (x10 : Int32) (x11 : Int32) (x13 : Int32) (x15 : Int32) (x16 : Int32), wp_L_isTicked_L319 E post n gx_L lt_L mo_L ad_L ln_L PL_L pf_L pw_L pk_L lw_L lk_L ik_L cw_L mw_L x7 x8 x9 x10 x11 x13 x15 x16 → ∀ (H : Heap) (locs : List Loc), va_P (eD E) vwCl ([((ax 0), .inr (3, [.ref (ax 1), .ref (ax 2), .ref (ax 4), .ref (ax 6), .int (gx_L 4), .int (gx_L 5), .int (gx_L 6), .int (gx_L 7), va_rf lt_L, .int (gx_L 9), .int (gx_L 10), .int (gx_L 11), .int (gx_L 12), .int (gx_L 13), .int (gx_L 14), .int (gx_L 15), .int (gx_L 16), .int (gx_L 17), .int (gx_L 18)])), ((ax 1), .inr (0, [.int mo_L, .ref ad_L, .int ln_L])), ((ax 2), .inr (2, [.ref (ax 3), .int pk_L])), ((ax 3), .inl (eC E 1, 157, .inr (.inl pw_L))), ((ax 4), .inr (2, [.ref (ax 5), .int lk_L])), ((ax 5), .inl (eC E 1, 157, .inr (.inl lw_L))), ((ax 6), .inl (eC E 0, 3, .inl ik_L)), ((bx 0), .inl (eC E 0, 64, .inl cw_L)), ((bx 1), .inl (eC E 0, 8, .inl mw_L))] ++ va_pl PL_L pf_L) H → va_D A ([((ax 0), .inr (3, [.ref (ax 1), .ref (ax 2), .ref (ax 4), .ref (ax 6), .int (gx_L 4), .int (gx_L 5), .int (gx_L 6), .int (gx_L 7), va_rf lt_L, .int (gx_L 9), .int (gx_L 10), .int (gx_L 11), .int (gx_L 12), .int (gx_L 13), .int (gx_L 14), .int (gx_L 15), .int (gx_L 16), .int (gx_L 17), .int (gx_L 18)])), ((ax 1), .inr (0, [.int mo_L, .ref ad_L, .int ln_L])), ((ax 2), .inr (2, [.ref (ax 3), .int pk_L])), ((ax 3), .inl (eC E 1, 157, .inr (.inl pw_L))), ((ax 4), .inr (2, [.ref (ax 5), .int lk_L])), ((ax 5), .inl (eC E 1, 157, .inr (.inl lw_L))), ((ax 6), .inl (eC E 0, 3, .inl ik_L)), ((bx 0), .inl (eC E 0, 64, .inl cw_L)), ((bx 1), .inl (eC E 0, 8, .inl mw_L))] ++ va_pl PL_L pf_L) → va_S A s.heap H locs → ∀ (ls : Array Slot), lv_has ls 18 [(0, .ref (ax 0)), (1, .ref (bx 0)), (2, .ref (bx 1)), (7, .int x7), (8, .int x8), (9, .int x9), (10, .int x10), (11, .int x11), (13, .int x13), (15, .int x15), (16, .int x16), (17, .int 1)] → W p l e (headSpec (Cond.code yL_isTicked cL_isTicked 18 (some .boolean) :: ALLW) ({ frames := 13, cells := 9, slots := 288, locals := 279 } : Room)).room s m ([.ref (ax 0), .ref (bx 0), .ref (bx 1)] : List Value).toArray below meth c H locs 9 288 (MQ below (va_Qi (fun (r : Int32) (u : (Nat → Int32) × Option Nat × Int32 × Nat × Int32 × List Nat × (Nat → va_E) × (Nat → Int64) × Int32 × (Nat → Int64) × Int32 × (Nat → Int32) × (Nat → Int32) × (Nat → Int32)) => post r u.1 u.2.1 u.2.2.1 u.2.2.2.1 u.2.2.2.2.1 u.2.2.2.2.2.1 u.2.2.2.2.2.2.1 u.2.2.2.2.2.2.2.1 u.2.2.2.2.2.2.2.2.1 u.2.2.2.2.2.2.2.2.2.1 u.2.2.2.2.2.2.2.2.2.2.1 u.2.2.2.2.2.2.2.2.2.2.2.1 u.2.2.2.2.2.2.2.2.2.2.2.2.1 u.2.2.2.2.2.2.2.2.2.2.2.2.2) (fun (u : (Nat → Int32) × Option Nat × Int32 × Nat × Int32 × List Nat × (Nat → va_E) × (Nat → Int64) × Int32 × (Nat → Int64) × Int32 × (Nat → Int32) × (Nat → Int32) × (Nat → Int32)) t => va_P (eD E) vwCl (wLP E ax bx u.1 u.2.1 u.2.2.1 u.2.2.2.1 u.2.2.2.2.1 u.2.2.2.2.2.1 u.2.2.2.2.2.2.1 u.2.2.2.2.2.2.2.1 u.2.2.2.2.2.2.2.2.1 u.2.2.2.2.2.2.2.2.2.1 u.2.2.2.2.2.2.2.2.2.2.1 u.2.2.2.2.2.2.2.2.2.2.2.1 u.2.2.2.2.2.2.2.2.2.2.2.2.1 u.2.2.2.2.2.2.2.2.2.2.2.2.2) t.heap ∧ va_D A (wLP E ax bx u.1 u.2.1 u.2.2.1 u.2.2.2.1 u.2.2.2.2.1 u.2.2.2.2.2.1 u.2.2.2.2.2.2.1 u.2.2.2.2.2.2.2.1 u.2.2.2.2.2.2.2.2.1 u.2.2.2.2.2.2.2.2.2.1 u.2.2.2.2.2.2.2.2.2.2.1 u.2.2.2.2.2.2.2.2.2.2.2.1 u.2.2.2.2.2.2.2.2.2.2.2.2.1 u.2.2.2.2.2.2.2.2.2.2.2.2.2)) A) ([.ref (ax 0), .ref (bx 0), .ref (bx 1)] : List Value).toArray s 9 288 A) (F0 m 319 ls []) := by
    intro n
    induction n with
    | zero => intro gx_L lt_L mo_L ad_L ln_L PL_L pf_L pw_L pk_L lw_L lk_L ik_L cw_L mw_L x7 x8 x9 x10 x11 x13 x15 x16 hw; exact hw.elim
    | succ n ih =>
      intro gx_L lt_L mo_L ad_L ln_L PL_L pf_L pw_L pk_L lw_L lk_L ik_L cw_L mw_L x7 x8 x9 x10 x11 x13 x15 x16 hw H locs hP hD hS ls hl
      unfold wp_L_isTicked_L319 at hw
      refine lv_aload_n hx hb dL_isTicked_319 rfl (lv_at hl 2 rfl) ?_
      refine lv_bipush (v := 7) hx hb dL_isTicked_320 (by decide) ?_
      refine lv_dup2_11 hx hb dL_isTicked_322 rfl rfl ?_
      refine va_iald hx hb hKE.1 hP 8 0 rfl rfl (show vp_in 7 8 from by unfold vp_in; decide) dL_isTicked_323 ?_
      refine lv_iload hx hb dL_isTicked_324 (lv_at hl 9 rfl) ?_
      refine lv_if_eq (tgt := 333) hx hb dL_isTicked_326 (by decide) (fun c_1416 => ?_) (fun c_1416 => ?_)
      · have hw := hw.1 c_1416
        refine lv_iconst (v := 0) hx hb dL_isTicked_333 (by decide) ?_
        refine lv_iadd hx hb dL_isTicked_334 ?_
        refine va_iast hx hb hKE.1 hP hD hS 8 0 rfl rfl (show vp_in 7 8 from by unfold vp_in; decide) dL_isTicked_335 (fun H locs hP hD hS => ?_)
        have hP : va_P (eD E) vwCl ([((ax 0), .inr (3, [.ref (ax 1), .ref (ax 2), .ref (ax 4), .ref (ax 6), .int (gx_L 4), .int (gx_L 5), .int (gx_L 6), .int (gx_L 7), va_rf lt_L, .int (gx_L 9), .int (gx_L 10), .int (gx_L 11), .int (gx_L 12), .int (gx_L 13), .int (gx_L 14), .int (gx_L 15), .int (gx_L 16), .int (gx_L 17), .int (gx_L 18)])), ((ax 1), .inr (0, [.int mo_L, .ref ad_L, .int ln_L])), ((ax 2), .inr (2, [.ref (ax 3), .int pk_L])), ((ax 3), .inl (eC E 1, 157, .inr (.inl pw_L))), ((ax 4), .inr (2, [.ref (ax 5), .int lk_L])), ((ax 5), .inl (eC E 1, 157, .inr (.inl lw_L))), ((ax 6), .inl (eC E 0, 3, .inl ik_L)), ((bx 0), .inl (eC E 0, 64, .inl cw_L)), ((bx 1), .inl (eC E 0, 8, .inl (upd mw_L (7 : Int32).toNatClampNeg ((mw_L (7 : Int32).toNatClampNeg) + 0))))] ++ va_pl PL_L pf_L) H := hP
        have hD : va_D A ([((ax 0), .inr (3, [.ref (ax 1), .ref (ax 2), .ref (ax 4), .ref (ax 6), .int (gx_L 4), .int (gx_L 5), .int (gx_L 6), .int (gx_L 7), va_rf lt_L, .int (gx_L 9), .int (gx_L 10), .int (gx_L 11), .int (gx_L 12), .int (gx_L 13), .int (gx_L 14), .int (gx_L 15), .int (gx_L 16), .int (gx_L 17), .int (gx_L 18)])), ((ax 1), .inr (0, [.int mo_L, .ref ad_L, .int ln_L])), ((ax 2), .inr (2, [.ref (ax 3), .int pk_L])), ((ax 3), .inl (eC E 1, 157, .inr (.inl pw_L))), ((ax 4), .inr (2, [.ref (ax 5), .int lk_L])), ((ax 5), .inl (eC E 1, 157, .inr (.inl lw_L))), ((ax 6), .inl (eC E 0, 3, .inl ik_L)), ((bx 0), .inl (eC E 0, 64, .inl cw_L)), ((bx 1), .inl (eC E 0, 8, .inl (upd mw_L (7 : Int32).toNatClampNeg ((mw_L (7 : Int32).toNatClampNeg) + 0))))] ++ va_pl PL_L pf_L) := hD
        refine lv_iload hx hb dL_isTicked_336 (lv_at hl 9 rfl) ?_
        refine lv_if_eq (tgt := 412) hx hb dL_isTicked_338 (by decide) (fun _ => ?_) (fun c9 => absurd c_1416 c9)
        refine lv_iload hx hb dL_isTicked_412 (lv_at hl 11 rfl) ?_
        refine lv_if_eq (tgt := 491) hx hb dL_isTicked_414 (by decide) (fun c9 => absurd c9 (by decide)) (fun _ => ?_)
        refine lv_aload_n hx hb dL_isTicked_417 rfl (lv_at hl 0 rfl) ?_
        have hPc : va_P (eD E) vwCl (wX E ax gx_L lt_L mo_L ad_L ln_L PL_L pf_L pw_L pk_L lw_L lk_L ik_L) H := hP.part [0, 1, 2, 3, 4, 5, 6] rfl
        refine vp_callSi (va_Run.run (va_runV (As := []) (rest := []) ⟨hx, hb, hml, hown, hta⟩ (c_X2_at E l ax gx_L lt_L mo_L ad_L ln_L PL_L pf_L pw_L pk_L lw_L lk_L ik_L _ hw) (pcV (n := 0) hta tw_522 tw_519 tw_1 tw_520 tw_521 rfl rfl hd_X2_at ⟨Nat.le_of_ble_eq_true rfl, Nat.le_of_ble_eq_true rfl⟩) ⟨fbR, va_recv hKE.1 hP (ci := 3) (q0 := 0) rfl rfl, fun U hU hW => ⟨rfl, preR.mk hPc hKE hU hW⟩⟩ rfl rfl hl.1 rfl (lv_room (Nat.le_of_ble_eq_true rfl)) dL_isTicked_418 ⟨Nat.le_of_ble_eq_true rfl, Nat.le_of_ble_eq_true rfl⟩)) (fun r_1417 hw => ?_)
        refine lv_iload hx hb dL_isTicked_421 (lv_at hl 6 rfl) ?_
        refine lv_icmp_ne (tgt := 491) hx hb dL_isTicked_423 (by decide) (fun c_1418 => ?_) (fun c_1418 => ?_)
        · have hw := hw.2 c_1418
          exact hw.elim
        · have hw := hw.1 c_1418
          refine lv_aload_n hx hb dL_isTicked_426 rfl (lv_at hl 0 rfl) ?_
          refine lv_iload hx hb dL_isTicked_427 (lv_at hl 4 rfl) ?_
          have hPc : va_P (eD E) vwCl (wX E ax gx_L lt_L mo_L ad_L ln_L PL_L pf_L pw_L pk_L lw_L lk_L ik_L) H := hP.part [0, 1, 2, 3, 4, 5, 6] rfl
          refine vp_callSi (va_Run.run (va_runV (As := [.int x8]) (rest := []) ⟨hx, hb, hml, hown, hta⟩ (c_X2_ink_r E l ax gx_L lt_L mo_L ad_L ln_L PL_L pf_L pw_L pk_L lw_L lk_L ik_L x8 _ hw) (pcV (n := 1) hta tw_141 tw_138 tw_1 tw_139 tw_140 rfl rfl hd_X2_ink ⟨Nat.le_of_ble_eq_true rfl, Nat.le_of_ble_eq_true rfl⟩) ⟨fbR, va_recv hKE.1 hP (ci := 3) (q0 := 0) rfl rfl, fun U hU hW => ⟨rfl, preR.mk hPc hKE hU hW⟩⟩ rfl rfl hl.1 rfl (lv_room (Nat.le_of_ble_eq_true rfl)) dL_isTicked_429 ⟨Nat.le_of_ble_eq_true rfl, Nat.le_of_ble_eq_true rfl⟩)) (fun r_1419 hw => ?_)
          refine lv_iload hx hb dL_isTicked_432 (lv_at hl 5 rfl) ?_
          refine lv_icmp_ne (tgt := 491) hx hb dL_isTicked_434 (by decide) (fun c_1420 => ?_) (fun c_1420 => ?_)
          · have hw := hw.2 c_1420
            exact hw.elim
          · have hw := hw.1 c_1420
            refine lv_aload_n hx hb dL_isTicked_437 rfl (lv_at hl 0 rfl) ?_
            have hPc : va_P (eD E) vwCl (wX E ax gx_L lt_L mo_L ad_L ln_L PL_L pf_L pw_L pk_L lw_L lk_L ik_L) H := hP.part [0, 1, 2, 3, 4, 5, 6] rfl
            refine vp_callSi (va_Run.run (va_runV (As := []) (rest := []) ⟨hx, hb, hml, hown, hta⟩ (c_X2_isDown E l ax gx_L lt_L mo_L ad_L ln_L PL_L pf_L pw_L pk_L lw_L lk_L ik_L _ hw) (pcV (n := 0) hta tw_533 tw_530 tw_1 tw_531 tw_532 rfl rfl hd_X2_isDown ⟨Nat.le_of_ble_eq_true rfl, Nat.le_of_ble_eq_true rfl⟩) ⟨fbR, va_recv hKE.1 hP (ci := 3) (q0 := 0) rfl rfl, fun U hU hW => ⟨rfl, preR.mk hPc hKE hU hW⟩⟩ rfl rfl hl.1 rfl (lv_room (Nat.le_of_ble_eq_true rfl)) dL_isTicked_438 ⟨Nat.le_of_ble_eq_true rfl, Nat.le_of_ble_eq_true rfl⟩)) (fun r_1421 hw => ?_)
            refine lv_iload hx hb dL_isTicked_441 (lv_at hl 7 rfl) ?_
            refine lv_icmp_eq (tgt := 462) hx hb dL_isTicked_443 (by decide) (fun c_1422 => ?_) (fun c_1422 => ?_)
            · have hw := hw.1 c_1422
              refine lv_aload_n hx hb dL_isTicked_462 rfl (lv_at hl 0 rfl) ?_
              have hPc : va_P (eD E) vwCl (wX E ax gx_L lt_L mo_L ad_L ln_L PL_L pf_L pw_L pk_L lw_L lk_L ik_L) H := hP.part [0, 1, 2, 3, 4, 5, 6] rfl
              refine vp_callSi (va_Run.run (va_runV (As := []) (rest := []) ⟨hx, hb, hml, hown, hta⟩ (c_X2_pen E l ax gx_L lt_L mo_L ad_L ln_L PL_L pf_L pw_L pk_L lw_L lk_L ik_L _ hw) (pcV (n := 0) hta tw_137 tw_134 tw_1 tw_135 tw_136 rfl rfl hd_X2_pen ⟨Nat.le_of_ble_eq_true rfl, Nat.le_of_ble_eq_true rfl⟩) ⟨fbR, va_recv hKE.1 hP (ci := 3) (q0 := 0) rfl rfl, fun U hU hW => ⟨rfl, preR.mk hPc hKE hU hW⟩⟩ rfl rfl hl.1 rfl (lv_room (Nat.le_of_ble_eq_true rfl)) dL_isTicked_463 ⟨Nat.le_of_ble_eq_true rfl, Nat.le_of_ble_eq_true rfl⟩)) (fun r_1423 hw => ?_)
              refine lv_iload hx hb dL_isTicked_466 (lv_at hl 4 rfl) ?_
              refine lv_icmp_eq (tgt := 487) hx hb dL_isTicked_468 (by decide) (fun c_1424 => ?_) (fun c_1424 => ?_)
              · have hw := hw.1 c_1424
                refine lv_iconst (v := 1) hx hb dL_isTicked_487 (by decide) ?_
                refine lv_goto (tgt := 492) hx hb dL_isTicked_488 (by decide) ?_
                refine lv_istore (lv' := [(17, .int 1), (0, .ref (ax 0)), (1, .ref (bx 0)), (2, .ref (bx 1)), (7, .int x7), (8, .int x8), (9, .int x9), (10, .int x10), (11, .int x11), (13, .int x13), (15, .int x15), (16, .int x16)]) hx hb dL_isTicked_492 hl (by decide) rfl (fun ls hl => ?_)
                obtain ⟨n_1436, hw⟩ := hw
                exact loop_494 n_1436 gx_L lt_L mo_L ad_L ln_L PL_L pf_L pw_L pk_L lw_L lk_L ik_L cw_L (upd mw_L (7 : Int32).toNatClampNeg ((mw_L (7 : Int32).toNatClampNeg) + 0)) x13 x15 x16 hw _ _ hP hD hS ls (lv_sub hl [1, 2, 3, 9, 10, 11, 0] rfl)
              · have hw := hw.2 c_1424
                refine lv_iload hx hb dL_isTicked_471 (lv_at hl 10 rfl) ?_
                refine lv_if_eq (tgt := 491) hx hb dL_isTicked_473 (by decide) (fun c_1437 => ?_) (fun c_1437 => ?_)
                · have hw := hw.1 c_1437
                  exact hw.elim
                · have hw := hw.2 c_1437
                  refine lv_iload hx hb dL_isTicked_476 (lv_at hl 8 rfl) ?_
                  refine lv_iconst (v := 3) hx hb dL_isTicked_478 (by decide) ?_
                  refine lv_icmp_ne (tgt := 491) hx hb dL_isTicked_479 (by decide) (fun c_1438 => ?_) (fun c_1438 => ?_)
                  · have hw := hw.2 c_1438
                    exact hw.elim
                  · have hw := hw.1 c_1438
                    refine lv_iload hx hb dL_isTicked_482 (lv_at hl 7 rfl) ?_
                    refine lv_if_ne (tgt := 491) hx hb dL_isTicked_484 (by decide) (fun c_1439 => ?_) (fun c_1439 => ?_)
                    · have hw := hw.2 c_1439
                      exact hw.elim
                    · have hw := hw.1 c_1439
                      refine lv_iconst (v := 1) hx hb dL_isTicked_487 (by decide) ?_
                      refine lv_goto (tgt := 492) hx hb dL_isTicked_488 (by decide) ?_
                      refine lv_istore (lv' := [(17, .int 1), (0, .ref (ax 0)), (1, .ref (bx 0)), (2, .ref (bx 1)), (7, .int x7), (8, .int x8), (9, .int x9), (10, .int x10), (11, .int x11), (13, .int x13), (15, .int x15), (16, .int x16)]) hx hb dL_isTicked_492 hl (by decide) rfl (fun ls hl => ?_)
                      obtain ⟨n_1440, hw⟩ := hw
                      exact loop_494 n_1440 gx_L lt_L mo_L ad_L ln_L PL_L pf_L pw_L pk_L lw_L lk_L ik_L cw_L (upd mw_L (7 : Int32).toNatClampNeg ((mw_L (7 : Int32).toNatClampNeg) + 0)) x13 x15 x16 hw _ _ hP hD hS ls (lv_sub hl [1, 2, 3, 9, 10, 11, 0] rfl)
            · have hw := hw.2 c_1422
              refine lv_iload hx hb dL_isTicked_446 (lv_at hl 8 rfl) ?_
              refine lv_iconst (v := 2) hx hb dL_isTicked_448 (by decide) ?_
              refine lv_icmp_eq (tgt := 456) hx hb dL_isTicked_449 (by decide) (fun c_1441 => ?_) (fun c_1441 => ?_)
              · have hw := hw.1 c_1441
                refine lv_iconst (v := 0) hx hb dL_isTicked_456 (by decide) ?_
                refine lv_iload hx hb dL_isTicked_457 (lv_at hl 7 rfl) ?_
                refine lv_icmp_ne (tgt := 491) hx hb dL_isTicked_459 (by decide) (fun c_1442 => ?_) (fun c_1442 => ?_)
                · have hw := hw.2 c_1442
                  exact hw.elim
                · have hw := hw.1 c_1442
                  refine lv_aload_n hx hb dL_isTicked_462 rfl (lv_at hl 0 rfl) ?_
                  have hPc : va_P (eD E) vwCl (wX E ax gx_L lt_L mo_L ad_L ln_L PL_L pf_L pw_L pk_L lw_L lk_L ik_L) H := hP.part [0, 1, 2, 3, 4, 5, 6] rfl
                  refine vp_callSi (va_Run.run (va_runV (As := []) (rest := []) ⟨hx, hb, hml, hown, hta⟩ (c_X2_pen E l ax gx_L lt_L mo_L ad_L ln_L PL_L pf_L pw_L pk_L lw_L lk_L ik_L _ hw) (pcV (n := 0) hta tw_137 tw_134 tw_1 tw_135 tw_136 rfl rfl hd_X2_pen ⟨Nat.le_of_ble_eq_true rfl, Nat.le_of_ble_eq_true rfl⟩) ⟨fbR, va_recv hKE.1 hP (ci := 3) (q0 := 0) rfl rfl, fun U hU hW => ⟨rfl, preR.mk hPc hKE hU hW⟩⟩ rfl rfl hl.1 rfl (lv_room (Nat.le_of_ble_eq_true rfl)) dL_isTicked_463 ⟨Nat.le_of_ble_eq_true rfl, Nat.le_of_ble_eq_true rfl⟩)) (fun r_1443 hw => ?_)
                  refine lv_iload hx hb dL_isTicked_466 (lv_at hl 4 rfl) ?_
                  refine lv_icmp_eq (tgt := 487) hx hb dL_isTicked_468 (by decide) (fun c_1444 => ?_) (fun c_1444 => ?_)
                  · have hw := hw.1 c_1444
                    refine lv_iconst (v := 1) hx hb dL_isTicked_487 (by decide) ?_
                    refine lv_goto (tgt := 492) hx hb dL_isTicked_488 (by decide) ?_
                    refine lv_istore (lv' := [(17, .int 1), (0, .ref (ax 0)), (1, .ref (bx 0)), (2, .ref (bx 1)), (7, .int x7), (8, .int x8), (9, .int x9), (10, .int x10), (11, .int x11), (13, .int x13), (15, .int x15), (16, .int x16)]) hx hb dL_isTicked_492 hl (by decide) rfl (fun ls hl => ?_)
                    obtain ⟨n_1445, hw⟩ := hw
                    exact loop_494 n_1445 gx_L lt_L mo_L ad_L ln_L PL_L pf_L pw_L pk_L lw_L lk_L ik_L cw_L (upd mw_L (7 : Int32).toNatClampNeg ((mw_L (7 : Int32).toNatClampNeg) + 0)) x13 x15 x16 hw _ _ hP hD hS ls (lv_sub hl [1, 2, 3, 9, 10, 11, 0] rfl)
                  · have hw := hw.2 c_1444
                    refine lv_iload hx hb dL_isTicked_471 (lv_at hl 10 rfl) ?_
                    refine lv_if_eq (tgt := 491) hx hb dL_isTicked_473 (by decide) (fun c_1446 => ?_) (fun c_1446 => ?_)
                    · have hw := hw.1 c_1446
                      exact hw.elim
                    · have hw := hw.2 c_1446
                      refine lv_iload hx hb dL_isTicked_476 (lv_at hl 8 rfl) ?_
                      refine lv_iconst (v := 3) hx hb dL_isTicked_478 (by decide) ?_
                      refine lv_icmp_ne (tgt := 491) hx hb dL_isTicked_479 (by decide) (fun c_1447 => ?_) (fun c_1447 => ?_)
                      · have hw := hw.2 c_1447
                        exact hw.elim
                      · have hw := hw.1 c_1447
                        refine lv_iload hx hb dL_isTicked_482 (lv_at hl 7 rfl) ?_
                        refine lv_if_ne (tgt := 491) hx hb dL_isTicked_484 (by decide) (fun c_1448 => ?_) (fun c_1448 => ?_)
                        · have hw := hw.2 c_1448
                          exact hw.elim
                        · have hw := hw.1 c_1448
                          refine lv_iconst (v := 1) hx hb dL_isTicked_487 (by decide) ?_
                          refine lv_goto (tgt := 492) hx hb dL_isTicked_488 (by decide) ?_
                          refine lv_istore (lv' := [(17, .int 1), (0, .ref (ax 0)), (1, .ref (bx 0)), (2, .ref (bx 1)), (7, .int x7), (8, .int x8), (9, .int x9), (10, .int x10), (11, .int x11), (13, .int x13), (15, .int x15), (16, .int x16)]) hx hb dL_isTicked_492 hl (by decide) rfl (fun ls hl => ?_)
                          obtain ⟨n_1449, hw⟩ := hw
                          exact loop_494 n_1449 gx_L lt_L mo_L ad_L ln_L PL_L pf_L pw_L pk_L lw_L lk_L ik_L cw_L (upd mw_L (7 : Int32).toNatClampNeg ((mw_L (7 : Int32).toNatClampNeg) + 0)) x13 x15 x16 hw _ _ hP hD hS ls (lv_sub hl [1, 2, 3, 9, 10, 11, 0] rfl)
              · have hw := hw.2 c_1441
                refine lv_iconst (v := 1) hx hb dL_isTicked_452 (by decide) ?_
                refine lv_goto (tgt := 457) hx hb dL_isTicked_453 (by decide) ?_
                refine lv_iload hx hb dL_isTicked_457 (lv_at hl 7 rfl) ?_
                refine lv_icmp_ne (tgt := 491) hx hb dL_isTicked_459 (by decide) (fun c_1450 => ?_) (fun c_1450 => ?_)
                · have hw := hw.2 c_1450
                  exact hw.elim
                · have hw := hw.1 c_1450
                  refine lv_aload_n hx hb dL_isTicked_462 rfl (lv_at hl 0 rfl) ?_
                  have hPc : va_P (eD E) vwCl (wX E ax gx_L lt_L mo_L ad_L ln_L PL_L pf_L pw_L pk_L lw_L lk_L ik_L) H := hP.part [0, 1, 2, 3, 4, 5, 6] rfl
                  refine vp_callSi (va_Run.run (va_runV (As := []) (rest := []) ⟨hx, hb, hml, hown, hta⟩ (c_X2_pen E l ax gx_L lt_L mo_L ad_L ln_L PL_L pf_L pw_L pk_L lw_L lk_L ik_L _ hw) (pcV (n := 0) hta tw_137 tw_134 tw_1 tw_135 tw_136 rfl rfl hd_X2_pen ⟨Nat.le_of_ble_eq_true rfl, Nat.le_of_ble_eq_true rfl⟩) ⟨fbR, va_recv hKE.1 hP (ci := 3) (q0 := 0) rfl rfl, fun U hU hW => ⟨rfl, preR.mk hPc hKE hU hW⟩⟩ rfl rfl hl.1 rfl (lv_room (Nat.le_of_ble_eq_true rfl)) dL_isTicked_463 ⟨Nat.le_of_ble_eq_true rfl, Nat.le_of_ble_eq_true rfl⟩)) (fun r_1451 hw => ?_)
                  refine lv_iload hx hb dL_isTicked_466 (lv_at hl 4 rfl) ?_
                  refine lv_icmp_eq (tgt := 487) hx hb dL_isTicked_468 (by decide) (fun c_1452 => ?_) (fun c_1452 => ?_)
                  · have hw := hw.1 c_1452
                    refine lv_iconst (v := 1) hx hb dL_isTicked_487 (by decide) ?_
                    refine lv_goto (tgt := 492) hx hb dL_isTicked_488 (by decide) ?_
                    refine lv_istore (lv' := [(17, .int 1), (0, .ref (ax 0)), (1, .ref (bx 0)), (2, .ref (bx 1)), (7, .int x7), (8, .int x8), (9, .int x9), (10, .int x10), (11, .int x11), (13, .int x13), (15, .int x15), (16, .int x16)]) hx hb dL_isTicked_492 hl (by decide) rfl (fun ls hl => ?_)
                    obtain ⟨n_1453, hw⟩ := hw
                    exact loop_494 n_1453 gx_L lt_L mo_L ad_L ln_L PL_L pf_L pw_L pk_L lw_L lk_L ik_L cw_L (upd mw_L (7 : Int32).toNatClampNeg ((mw_L (7 : Int32).toNatClampNeg) + 0)) x13 x15 x16 hw _ _ hP hD hS ls (lv_sub hl [1, 2, 3, 9, 10, 11, 0] rfl)
                  · have hw := hw.2 c_1452
                    refine lv_iload hx hb dL_isTicked_471 (lv_at hl 10 rfl) ?_
                    refine lv_if_eq (tgt := 491) hx hb dL_isTicked_473 (by decide) (fun c_1454 => ?_) (fun c_1454 => ?_)
                    · have hw := hw.1 c_1454
                      exact hw.elim
                    · have hw := hw.2 c_1454
                      refine lv_iload hx hb dL_isTicked_476 (lv_at hl 8 rfl) ?_
                      refine lv_iconst (v := 3) hx hb dL_isTicked_478 (by decide) ?_
                      refine lv_icmp_ne (tgt := 491) hx hb dL_isTicked_479 (by decide) (fun c_1455 => ?_) (fun c_1455 => ?_)
                      · have hw := hw.2 c_1455
                        exact hw.elim
                      · have hw := hw.1 c_1455
                        refine lv_iload hx hb dL_isTicked_482 (lv_at hl 7 rfl) ?_
                        refine lv_if_ne (tgt := 491) hx hb dL_isTicked_484 (by decide) (fun c_1456 => ?_) (fun c_1456 => ?_)
                        · have hw := hw.2 c_1456
                          exact hw.elim
                        · have hw := hw.1 c_1456
                          refine lv_iconst (v := 1) hx hb dL_isTicked_487 (by decide) ?_
                          refine lv_goto (tgt := 492) hx hb dL_isTicked_488 (by decide) ?_
                          refine lv_istore (lv' := [(17, .int 1), (0, .ref (ax 0)), (1, .ref (bx 0)), (2, .ref (bx 1)), (7, .int x7), (8, .int x8), (9, .int x9), (10, .int x10), (11, .int x11), (13, .int x13), (15, .int x15), (16, .int x16)]) hx hb dL_isTicked_492 hl (by decide) rfl (fun ls hl => ?_)
                          obtain ⟨n_1457, hw⟩ := hw
                          exact loop_494 n_1457 gx_L lt_L mo_L ad_L ln_L PL_L pf_L pw_L pk_L lw_L lk_L ik_L cw_L (upd mw_L (7 : Int32).toNatClampNeg ((mw_L (7 : Int32).toNatClampNeg) + 0)) x13 x15 x16 hw _ _ hP hD hS ls (lv_sub hl [1, 2, 3, 9, 10, 11, 0] rfl)
      · have hw := hw.2 c_1416
        refine lv_iconst (v := 1) hx hb dL_isTicked_329 (by decide) ?_
        refine lv_goto (tgt := 334) hx hb dL_isTicked_330 (by decide) ?_
        refine lv_iadd hx hb dL_isTicked_334 ?_
        refine va_iast hx hb hKE.1 hP hD hS 8 0 rfl rfl (show vp_in 7 8 from by unfold vp_in; decide) dL_isTicked_335 (fun H locs hP hD hS => ?_)
        have hP : va_P (eD E) vwCl ([((ax 0), .inr (3, [.ref (ax 1), .ref (ax 2), .ref (ax 4), .ref (ax 6), .int (gx_L 4), .int (gx_L 5), .int (gx_L 6), .int (gx_L 7), va_rf lt_L, .int (gx_L 9), .int (gx_L 10), .int (gx_L 11), .int (gx_L 12), .int (gx_L 13), .int (gx_L 14), .int (gx_L 15), .int (gx_L 16), .int (gx_L 17), .int (gx_L 18)])), ((ax 1), .inr (0, [.int mo_L, .ref ad_L, .int ln_L])), ((ax 2), .inr (2, [.ref (ax 3), .int pk_L])), ((ax 3), .inl (eC E 1, 157, .inr (.inl pw_L))), ((ax 4), .inr (2, [.ref (ax 5), .int lk_L])), ((ax 5), .inl (eC E 1, 157, .inr (.inl lw_L))), ((ax 6), .inl (eC E 0, 3, .inl ik_L)), ((bx 0), .inl (eC E 0, 64, .inl cw_L)), ((bx 1), .inl (eC E 0, 8, .inl (upd mw_L (7 : Int32).toNatClampNeg ((mw_L (7 : Int32).toNatClampNeg) + 1))))] ++ va_pl PL_L pf_L) H := hP
        have hD : va_D A ([((ax 0), .inr (3, [.ref (ax 1), .ref (ax 2), .ref (ax 4), .ref (ax 6), .int (gx_L 4), .int (gx_L 5), .int (gx_L 6), .int (gx_L 7), va_rf lt_L, .int (gx_L 9), .int (gx_L 10), .int (gx_L 11), .int (gx_L 12), .int (gx_L 13), .int (gx_L 14), .int (gx_L 15), .int (gx_L 16), .int (gx_L 17), .int (gx_L 18)])), ((ax 1), .inr (0, [.int mo_L, .ref ad_L, .int ln_L])), ((ax 2), .inr (2, [.ref (ax 3), .int pk_L])), ((ax 3), .inl (eC E 1, 157, .inr (.inl pw_L))), ((ax 4), .inr (2, [.ref (ax 5), .int lk_L])), ((ax 5), .inl (eC E 1, 157, .inr (.inl lw_L))), ((ax 6), .inl (eC E 0, 3, .inl ik_L)), ((bx 0), .inl (eC E 0, 64, .inl cw_L)), ((bx 1), .inl (eC E 0, 8, .inl (upd mw_L (7 : Int32).toNatClampNeg ((mw_L (7 : Int32).toNatClampNeg) + 1))))] ++ va_pl PL_L pf_L) := hD
        refine lv_iload hx hb dL_isTicked_336 (lv_at hl 9 rfl) ?_
        refine lv_if_eq (tgt := 412) hx hb dL_isTicked_338 (by decide) (fun c9 => absurd c9 c_1416) (fun _ => ?_)
        refine lv_iload hx hb dL_isTicked_341 (lv_at hl 11 rfl) ?_
        refine lv_if_eq (tgt := 406) hx hb dL_isTicked_343 (by decide) (fun c9 => absurd c9 (by decide)) (fun _ => ?_)
        refine lv_aload_n hx hb dL_isTicked_346 rfl (lv_at hl 0 rfl) ?_
        have hPc : va_P (eD E) vwCl (wX E ax gx_L lt_L mo_L ad_L ln_L PL_L pf_L pw_L pk_L lw_L lk_L ik_L) H := hP.part [0, 1, 2, 3, 4, 5, 6] rfl
        refine vp_callSi (va_Run.run (va_runV (As := []) (rest := []) ⟨hx, hb, hml, hown, hta⟩ (c_X2_isDown E l ax gx_L lt_L mo_L ad_L ln_L PL_L pf_L pw_L pk_L lw_L lk_L ik_L _ hw) (pcV (n := 0) hta tw_533 tw_530 tw_1 tw_531 tw_532 rfl rfl hd_X2_isDown ⟨Nat.le_of_ble_eq_true rfl, Nat.le_of_ble_eq_true rfl⟩) ⟨fbR, va_recv hKE.1 hP (ci := 3) (q0 := 0) rfl rfl, fun U hU hW => ⟨rfl, preR.mk hPc hKE hU hW⟩⟩ rfl rfl hl.1 rfl (lv_room (Nat.le_of_ble_eq_true rfl)) dL_isTicked_347 ⟨Nat.le_of_ble_eq_true rfl, Nat.le_of_ble_eq_true rfl⟩)) (fun r_1458 hw => ?_)
        refine lv_iload hx hb dL_isTicked_350 (lv_at hl 7 rfl) ?_
        refine lv_icmp_ne (tgt := 406) hx hb dL_isTicked_352 (by decide) (fun c_1459 => ?_) (fun c_1459 => ?_)
        · have hw := hw.2 c_1459
          exact hw.elim
        · have hw := hw.1 c_1459
          refine lv_aload_n hx hb dL_isTicked_355 rfl (lv_at hl 0 rfl) ?_
          refine lv_iload hx hb dL_isTicked_356 (lv_at hl 4 rfl) ?_
          have hPc : va_P (eD E) vwCl (wX E ax gx_L lt_L mo_L ad_L ln_L PL_L pf_L pw_L pk_L lw_L lk_L ik_L) H := hP.part [0, 1, 2, 3, 4, 5, 6] rfl
          refine vp_callSi (va_Run.run (va_runV (As := [.int x8]) (rest := []) ⟨hx, hb, hml, hown, hta⟩ (c_X2_ink_r E l ax gx_L lt_L mo_L ad_L ln_L PL_L pf_L pw_L pk_L lw_L lk_L ik_L x8 _ hw) (pcV (n := 1) hta tw_141 tw_138 tw_1 tw_139 tw_140 rfl rfl hd_X2_ink ⟨Nat.le_of_ble_eq_true rfl, Nat.le_of_ble_eq_true rfl⟩) ⟨fbR, va_recv hKE.1 hP (ci := 3) (q0 := 0) rfl rfl, fun U hU hW => ⟨rfl, preR.mk hPc hKE hU hW⟩⟩ rfl rfl hl.1 rfl (lv_room (Nat.le_of_ble_eq_true rfl)) dL_isTicked_358 ⟨Nat.le_of_ble_eq_true rfl, Nat.le_of_ble_eq_true rfl⟩)) (fun r_1460 hw => ?_)
          refine lv_iload hx hb dL_isTicked_361 (lv_at hl 5 rfl) ?_
          refine lv_iload hx hb dL_isTicked_363 (lv_at hl 8 rfl) ?_
          refine lv_iconst (v := 2) hx hb dL_isTicked_365 (by decide) ?_
          refine lv_icmp_ne (tgt := 373) hx hb dL_isTicked_366 (by decide) (fun c_1461 => ?_) (fun c_1461 => ?_)
          · have hw := hw.2 c_1461
            refine lv_iconst (v := 0) hx hb dL_isTicked_373 (by decide) ?_
            refine lv_isub hx hb dL_isTicked_374 ?_
            refine lv_icmp_ne (tgt := 406) hx hb dL_isTicked_375 (by decide) (fun c_1462 => ?_) (fun c_1462 => ?_)
            · have hw := hw.2 c_1462
              exact hw.elim
            · have hw := hw.1 c_1462
              refine lv_iload hx hb dL_isTicked_378 (lv_at hl 8 rfl) ?_
              refine lv_iconst (v := 2) hx hb dL_isTicked_380 (by decide) ?_
              refine lv_icmp_eq (tgt := 393) hx hb dL_isTicked_381 (by decide) (fun c9 => absurd c9 c_1461) (fun _ => ?_)
              refine lv_aload_n hx hb dL_isTicked_384 rfl (lv_at hl 0 rfl) ?_
              have hPc : va_P (eD E) vwCl (wX E ax gx_L lt_L mo_L ad_L ln_L PL_L pf_L pw_L pk_L lw_L lk_L ik_L) H := hP.part [0, 1, 2, 3, 4, 5, 6] rfl
              refine vp_callSi (va_Run.run (va_runV (As := []) (rest := []) ⟨hx, hb, hml, hown, hta⟩ (c_X2_marks E l ax gx_L lt_L mo_L ad_L ln_L PL_L pf_L pw_L pk_L lw_L lk_L ik_L _ hw) (pcV (n := 0) hta tw_219 tw_216 tw_1 tw_217 tw_218 rfl rfl hd_X2_marks ⟨Nat.le_of_ble_eq_true rfl, Nat.le_of_ble_eq_true rfl⟩) ⟨fbR, va_recv hKE.1 hP (ci := 3) (q0 := 0) rfl rfl, fun U hU hW => ⟨rfl, preR.mk hPc hKE hU hW⟩⟩ rfl rfl hl.1 rfl (lv_room (Nat.le_of_ble_eq_true rfl)) dL_isTicked_385 ⟨Nat.le_of_ble_eq_true rfl, Nat.le_of_ble_eq_true rfl⟩)) (fun r_1463 hw => ?_)
              refine lv_iload hx hb dL_isTicked_388 (lv_at hl 3 rfl) ?_
              refine lv_icmp_ne (tgt := 406) hx hb dL_isTicked_390 (by decide) (fun c_1464 => ?_) (fun c_1464 => ?_)
              · have hw := hw.2 c_1464
                exact hw.elim
              · have hw := hw.1 c_1464
                refine lv_aload_n hx hb dL_isTicked_393 rfl (lv_at hl 0 rfl) ?_
                have hPc : va_P (eD E) vwCl (wX E ax gx_L lt_L mo_L ad_L ln_L PL_L pf_L pw_L pk_L lw_L lk_L ik_L) H := hP.part [0, 1, 2, 3, 4, 5, 6] rfl
                refine vp_callSi (va_Run.run (va_runV (As := []) (rest := []) ⟨hx, hb, hml, hown, hta⟩ (c_X2_pen E l ax gx_L lt_L mo_L ad_L ln_L PL_L pf_L pw_L pk_L lw_L lk_L ik_L _ hw) (pcV (n := 0) hta tw_137 tw_134 tw_1 tw_135 tw_136 rfl rfl hd_X2_pen ⟨Nat.le_of_ble_eq_true rfl, Nat.le_of_ble_eq_true rfl⟩) ⟨fbR, va_recv hKE.1 hP (ci := 3) (q0 := 0) rfl rfl, fun U hU hW => ⟨rfl, preR.mk hPc hKE hU hW⟩⟩ rfl rfl hl.1 rfl (lv_room (Nat.le_of_ble_eq_true rfl)) dL_isTicked_394 ⟨Nat.le_of_ble_eq_true rfl, Nat.le_of_ble_eq_true rfl⟩)) (fun r_1465 hw => ?_)
                refine lv_iload hx hb dL_isTicked_397 (lv_at hl 4 rfl) ?_
                refine lv_icmp_ne (tgt := 406) hx hb dL_isTicked_399 (by decide) (fun c_1466 => ?_) (fun c_1466 => ?_)
                · have hw := hw.2 c_1466
                  exact hw.elim
                · have hw := hw.1 c_1466
                  refine lv_iconst (v := 1) hx hb dL_isTicked_402 (by decide) ?_
                  refine lv_goto (tgt := 407) hx hb dL_isTicked_403 (by decide) ?_
                  refine lv_istore (lv' := [(17, .int 1), (0, .ref (ax 0)), (1, .ref (bx 0)), (2, .ref (bx 1)), (7, .int x7), (8, .int x8), (9, .int x9), (10, .int x10), (11, .int x11), (13, .int x13), (15, .int x15), (16, .int x16)]) hx hb dL_isTicked_407 hl (by decide) rfl (fun ls hl => ?_)
                  refine lv_goto (tgt := 494) hx hb dL_isTicked_409 (by decide) ?_
                  obtain ⟨n_1467, hw⟩ := hw
                  exact loop_494 n_1467 gx_L lt_L mo_L ad_L ln_L PL_L pf_L pw_L pk_L lw_L lk_L ik_L cw_L (upd mw_L (7 : Int32).toNatClampNeg ((mw_L (7 : Int32).toNatClampNeg) + 1)) x13 x15 x16 hw _ _ hP hD hS ls (lv_sub hl [1, 2, 3, 9, 10, 11, 0] rfl)
          · have hw := hw.1 c_1461
            refine lv_iconst (v := 1) hx hb dL_isTicked_369 (by decide) ?_
            refine lv_goto (tgt := 374) hx hb dL_isTicked_370 (by decide) ?_
            refine lv_isub hx hb dL_isTicked_374 ?_
            refine lv_icmp_ne (tgt := 406) hx hb dL_isTicked_375 (by decide) (fun c_1468 => ?_) (fun c_1468 => ?_)
            · have hw := hw.2 c_1468
              exact hw.elim
            · have hw := hw.1 c_1468
              refine lv_iload hx hb dL_isTicked_378 (lv_at hl 8 rfl) ?_
              refine lv_iconst (v := 2) hx hb dL_isTicked_380 (by decide) ?_
              refine lv_icmp_eq (tgt := 393) hx hb dL_isTicked_381 (by decide) (fun _ => ?_) (fun c9 => absurd c_1461 c9)
              refine lv_aload_n hx hb dL_isTicked_393 rfl (lv_at hl 0 rfl) ?_
              have hPc : va_P (eD E) vwCl (wX E ax gx_L lt_L mo_L ad_L ln_L PL_L pf_L pw_L pk_L lw_L lk_L ik_L) H := hP.part [0, 1, 2, 3, 4, 5, 6] rfl
              refine vp_callSi (va_Run.run (va_runV (As := []) (rest := []) ⟨hx, hb, hml, hown, hta⟩ (c_X2_pen E l ax gx_L lt_L mo_L ad_L ln_L PL_L pf_L pw_L pk_L lw_L lk_L ik_L _ hw) (pcV (n := 0) hta tw_137 tw_134 tw_1 tw_135 tw_136 rfl rfl hd_X2_pen ⟨Nat.le_of_ble_eq_true rfl, Nat.le_of_ble_eq_true rfl⟩) ⟨fbR, va_recv hKE.1 hP (ci := 3) (q0 := 0) rfl rfl, fun U hU hW => ⟨rfl, preR.mk hPc hKE hU hW⟩⟩ rfl rfl hl.1 rfl (lv_room (Nat.le_of_ble_eq_true rfl)) dL_isTicked_394 ⟨Nat.le_of_ble_eq_true rfl, Nat.le_of_ble_eq_true rfl⟩)) (fun r_1469 hw => ?_)
              refine lv_iload hx hb dL_isTicked_397 (lv_at hl 4 rfl) ?_
              refine lv_icmp_ne (tgt := 406) hx hb dL_isTicked_399 (by decide) (fun c_1470 => ?_) (fun c_1470 => ?_)
              · have hw := hw.2 c_1470
                exact hw.elim
              · have hw := hw.1 c_1470
                refine lv_iconst (v := 1) hx hb dL_isTicked_402 (by decide) ?_
                refine lv_goto (tgt := 407) hx hb dL_isTicked_403 (by decide) ?_
                refine lv_istore (lv' := [(17, .int 1), (0, .ref (ax 0)), (1, .ref (bx 0)), (2, .ref (bx 1)), (7, .int x7), (8, .int x8), (9, .int x9), (10, .int x10), (11, .int x11), (13, .int x13), (15, .int x15), (16, .int x16)]) hx hb dL_isTicked_407 hl (by decide) rfl (fun ls hl => ?_)
                refine lv_goto (tgt := 494) hx hb dL_isTicked_409 (by decide) ?_
                obtain ⟨n_1471, hw⟩ := hw
                exact loop_494 n_1471 gx_L lt_L mo_L ad_L ln_L PL_L pf_L pw_L pk_L lw_L lk_L ik_L cw_L (upd mw_L (7 : Int32).toNatClampNeg ((mw_L (7 : Int32).toNatClampNeg) + 1)) x13 x15 x16 hw _ _ hP hD hS ls (lv_sub hl [1, 2, 3, 9, 10, 11, 0] rfl)
  have loop_195 : ∀ (n : Nat) (gx_L : Nat → Int32) (lt_L : Option Nat) (mo_L : Int32) (ad_L : Nat) (ln_L : Int32) (PL_L : List Nat) (pf_L : Nat → va_E) (pw_L : Nat → Int64) (pk_L : Int32) (lw_L : Nat → Int64) (lk_L : Int32) (ik_L : Nat → Int32) (cw_L : Nat → Int32) (mw_L : Nat → Int32) (x3 : Int32) (x4 : Int32) (x5 : Int32) (x6 : Int32) (x7 : Int32) (x8 : Int32) (x9 : Int32) (x10 : Int32) (x11 : Int32) (x12 : Int32) (x13 : Int32) (x14 : Int32) (x15 : Int32) (x16 : Int32), wp_L_isTicked_L195 E post n gx_L lt_L mo_L ad_L ln_L PL_L pf_L pw_L pk_L lw_L lk_L ik_L cw_L mw_L x3 x4 x5 x6 x7 x8 x9 x10 x11 x12 x13 x14 x15 x16 → ∀ (H : Heap) (locs : List Loc), va_P (eD E) vwCl ([((ax 0), .inr (3, [.ref (ax 1), .ref (ax 2), .ref (ax 4), .ref (ax 6), .int (gx_L 4), .int (gx_L 5), .int (gx_L 6), .int (gx_L 7), va_rf lt_L, .int (gx_L 9), .int (gx_L 10), .int (gx_L 11), .int (gx_L 12), .int (gx_L 13), .int (gx_L 14), .int (gx_L 15), .int (gx_L 16), .int (gx_L 17), .int (gx_L 18)])), ((ax 1), .inr (0, [.int mo_L, .ref ad_L, .int ln_L])), ((ax 2), .inr (2, [.ref (ax 3), .int pk_L])), ((ax 3), .inl (eC E 1, 157, .inr (.inl pw_L))), ((ax 4), .inr (2, [.ref (ax 5), .int lk_L])), ((ax 5), .inl (eC E 1, 157, .inr (.inl lw_L))), ((ax 6), .inl (eC E 0, 3, .inl ik_L)), ((bx 0), .inl (eC E 0, 64, .inl cw_L)), ((bx 1), .inl (eC E 0, 8, .inl mw_L))] ++ va_pl PL_L pf_L) H → va_D A ([((ax 0), .inr (3, [.ref (ax 1), .ref (ax 2), .ref (ax 4), .ref (ax 6), .int (gx_L 4), .int (gx_L 5), .int (gx_L 6), .int (gx_L 7), va_rf lt_L, .int (gx_L 9), .int (gx_L 10), .int (gx_L 11), .int (gx_L 12), .int (gx_L 13), .int (gx_L 14), .int (gx_L 15), .int (gx_L 16), .int (gx_L 17), .int (gx_L 18)])), ((ax 1), .inr (0, [.int mo_L, .ref ad_L, .int ln_L])), ((ax 2), .inr (2, [.ref (ax 3), .int pk_L])), ((ax 3), .inl (eC E 1, 157, .inr (.inl pw_L))), ((ax 4), .inr (2, [.ref (ax 5), .int lk_L])), ((ax 5), .inl (eC E 1, 157, .inr (.inl lw_L))), ((ax 6), .inl (eC E 0, 3, .inl ik_L)), ((bx 0), .inl (eC E 0, 64, .inl cw_L)), ((bx 1), .inl (eC E 0, 8, .inl mw_L))] ++ va_pl PL_L pf_L) → va_S A s.heap H locs → ∀ (ls : Array Slot), lv_has ls 18 [(0, .ref (ax 0)), (1, .ref (bx 0)), (2, .ref (bx 1)), (3, .int x3), (4, .int x4), (5, .int x5), (6, .int x6), (7, .int x7), (8, .int x8), (9, .int x9), (10, .int x10), (11, .int x11), (12, .int x12), (13, .int x13), (14, .int x14), (15, .int x15), (16, .int x16)] → W p l e (headSpec (Cond.code yL_isTicked cL_isTicked 18 (some .boolean) :: ALLW) ({ frames := 13, cells := 9, slots := 288, locals := 279 } : Room)).room s m ([.ref (ax 0), .ref (bx 0), .ref (bx 1)] : List Value).toArray below meth c H locs 9 288 (MQ below (va_Qi (fun (r : Int32) (u : (Nat → Int32) × Option Nat × Int32 × Nat × Int32 × List Nat × (Nat → va_E) × (Nat → Int64) × Int32 × (Nat → Int64) × Int32 × (Nat → Int32) × (Nat → Int32) × (Nat → Int32)) => post r u.1 u.2.1 u.2.2.1 u.2.2.2.1 u.2.2.2.2.1 u.2.2.2.2.2.1 u.2.2.2.2.2.2.1 u.2.2.2.2.2.2.2.1 u.2.2.2.2.2.2.2.2.1 u.2.2.2.2.2.2.2.2.2.1 u.2.2.2.2.2.2.2.2.2.2.1 u.2.2.2.2.2.2.2.2.2.2.2.1 u.2.2.2.2.2.2.2.2.2.2.2.2.1 u.2.2.2.2.2.2.2.2.2.2.2.2.2) (fun (u : (Nat → Int32) × Option Nat × Int32 × Nat × Int32 × List Nat × (Nat → va_E) × (Nat → Int64) × Int32 × (Nat → Int64) × Int32 × (Nat → Int32) × (Nat → Int32) × (Nat → Int32)) t => va_P (eD E) vwCl (wLP E ax bx u.1 u.2.1 u.2.2.1 u.2.2.2.1 u.2.2.2.2.1 u.2.2.2.2.2.1 u.2.2.2.2.2.2.1 u.2.2.2.2.2.2.2.1 u.2.2.2.2.2.2.2.2.1 u.2.2.2.2.2.2.2.2.2.1 u.2.2.2.2.2.2.2.2.2.2.1 u.2.2.2.2.2.2.2.2.2.2.2.1 u.2.2.2.2.2.2.2.2.2.2.2.2.1 u.2.2.2.2.2.2.2.2.2.2.2.2.2) t.heap ∧ va_D A (wLP E ax bx u.1 u.2.1 u.2.2.1 u.2.2.2.1 u.2.2.2.2.1 u.2.2.2.2.2.1 u.2.2.2.2.2.2.1 u.2.2.2.2.2.2.2.1 u.2.2.2.2.2.2.2.2.1 u.2.2.2.2.2.2.2.2.2.1 u.2.2.2.2.2.2.2.2.2.2.1 u.2.2.2.2.2.2.2.2.2.2.2.1 u.2.2.2.2.2.2.2.2.2.2.2.2.1 u.2.2.2.2.2.2.2.2.2.2.2.2.2)) A) ([.ref (ax 0), .ref (bx 0), .ref (bx 1)] : List Value).toArray s 9 288 A) (F0 m 195 ls []) := by
    intro n
    induction n with
    | zero => intro gx_L lt_L mo_L ad_L ln_L PL_L pf_L pw_L pk_L lw_L lk_L ik_L cw_L mw_L x3 x4 x5 x6 x7 x8 x9 x10 x11 x12 x13 x14 x15 x16 hw; exact hw.elim
    | succ n ih =>
      intro gx_L lt_L mo_L ad_L ln_L PL_L pf_L pw_L pk_L lw_L lk_L ik_L cw_L mw_L x3 x4 x5 x6 x7 x8 x9 x10 x11 x12 x13 x14 x15 x16 hw H locs hP hD hS ls hl
      unfold wp_L_isTicked_L195 at hw
      refine lv_iload hx hb dL_isTicked_195 (lv_at hl 14 rfl) ?_
      refine lv_iload hx hb dL_isTicked_197 (lv_at hl 15 rfl) ?_
      refine lv_if_eq (tgt := 206) hx hb dL_isTicked_199 (by decide) (fun c_1402 => ?_) (fun c_1402 => ?_)
      · have hw := hw.1 c_1402
        refine lv_iconst (v := 0) hx hb dL_isTicked_206 (by decide) ?_
        refine lv_icmp_ne (tgt := 316) hx hb dL_isTicked_207 (by decide) (fun c_1403 => ?_) (fun c_1403 => ?_)
        · have hw := hw.2 c_1403
          exact hw.elim
        · have hw := hw.1 c_1403
          refine lv_aload_n hx hb dL_isTicked_210 rfl (lv_at hl 0 rfl) ?_
          have hPc : va_P (eD E) vwCl (wX E ax gx_L lt_L mo_L ad_L ln_L PL_L pf_L pw_L pk_L lw_L lk_L ik_L) H := hP.part [0, 1, 2, 3, 4, 5, 6] rfl
          refine vp_callSi (va_Run.run (va_runV (As := []) (rest := []) ⟨hx, hb, hml, hown, hta⟩ (c_X2_timeLeft E l ax gx_L lt_L mo_L ad_L ln_L PL_L pf_L pw_L pk_L lw_L lk_L ik_L _ hw) (pcV (n := 0) hta tw_518 tw_515 tw_1 tw_516 tw_517 rfl rfl hd_X2_timeLeft ⟨Nat.le_of_ble_eq_true rfl, Nat.le_of_ble_eq_true rfl⟩) ⟨fbR, va_recv hKE.1 hP (ci := 3) (q0 := 0) rfl rfl, fun U hU hW => ⟨rfl, preR.mk hPc hKE hU hW⟩⟩ rfl rfl hl.1 rfl (lv_room (Nat.le_of_ble_eq_true rfl)) dL_isTicked_211 ⟨Nat.le_of_ble_eq_true rfl, Nat.le_of_ble_eq_true rfl⟩)) (fun r_1404 hw => ?_)
          refine lv_iload_n hx hb dL_isTicked_214 rfl (lv_at hl 3 rfl) ?_
          refine lv_iconst (v := 1) hx hb dL_isTicked_215 (by decide) ?_
          refine lv_isub hx hb dL_isTicked_216 ?_
          refine lv_icmp_ne (tgt := 316) hx hb dL_isTicked_217 (by decide) (fun c_1405 => ?_) (fun c_1405 => ?_)
          · have hw := hw.2 c_1405
            exact hw.elim
          · have hw := hw.1 c_1405
            refine lv_aload_n hx hb dL_isTicked_220 rfl (lv_at hl 0 rfl) ?_
            have hPc : va_P (eD E) vwCl (wX E ax gx_L lt_L mo_L ad_L ln_L PL_L pf_L pw_L pk_L lw_L lk_L ik_L) H := hP.part [0, 1, 2, 3, 4, 5, 6] rfl
            refine vp_callSi (va_Run.run (va_runV (As := []) (rest := []) ⟨hx, hb, hml, hown, hta⟩ (c_X2_stepsUp E l ax gx_L lt_L mo_L ad_L ln_L PL_L pf_L pw_L pk_L lw_L lk_L ik_L _ hw) (pcV (n := 0) hta tw_560 tw_557 tw_1 tw_558 tw_559 rfl rfl hd_X2_stepsUp ⟨Nat.le_of_ble_eq_true rfl, Nat.le_of_ble_eq_true rfl⟩) ⟨fbR, va_recv hKE.1 hP (ci := 3) (q0 := 0) rfl rfl, fun U hU hW => ⟨rfl, preR.mk hPc hKE hU hW⟩⟩ rfl rfl hl.1 rfl (lv_room (Nat.le_of_ble_eq_true rfl)) dL_isTicked_221 ⟨Nat.le_of_ble_eq_true rfl, Nat.le_of_ble_eq_true rfl⟩)) (fun r_1406 hw => ?_)
            refine lv_iload hx hb dL_isTicked_224 (lv_at hl 5 rfl) ?_
            refine lv_iload hx hb dL_isTicked_226 (lv_at hl 15 rfl) ?_
            refine lv_if_eq (tgt := 241) hx hb dL_isTicked_228 (by decide) (fun _ => ?_) (fun c9 => absurd c_1402 c9)
            refine lv_iconst (v := 0) hx hb dL_isTicked_241 (by decide) ?_
            refine lv_iadd hx hb dL_isTicked_242 ?_
            refine lv_icmp_ne (tgt := 316) hx hb dL_isTicked_243 (by decide) (fun c_1407 => ?_) (fun c_1407 => ?_)
            · have hw := hw.2 c_1407
              exact hw.elim
            · have hw := hw.1 c_1407
              refine lv_aload_n hx hb dL_isTicked_246 rfl (lv_at hl 0 rfl) ?_
              have hPc : va_P (eD E) vwCl (wX E ax gx_L lt_L mo_L ad_L ln_L PL_L pf_L pw_L pk_L lw_L lk_L ik_L) H := hP.part [0, 1, 2, 3, 4, 5, 6] rfl
              refine vp_callSi (va_Run.run (va_runV (As := []) (rest := []) ⟨hx, hb, hml, hown, hta⟩ (c_X2_stepsDown E l ax gx_L lt_L mo_L ad_L ln_L PL_L pf_L pw_L pk_L lw_L lk_L ik_L _ hw) (pcV (n := 0) hta tw_565 tw_562 tw_1 tw_563 tw_564 rfl rfl hd_X2_stepsDown ⟨Nat.le_of_ble_eq_true rfl, Nat.le_of_ble_eq_true rfl⟩) ⟨fbR, va_recv hKE.1 hP (ci := 3) (q0 := 0) rfl rfl, fun U hU hW => ⟨rfl, preR.mk hPc hKE hU hW⟩⟩ rfl rfl hl.1 rfl (lv_room (Nat.le_of_ble_eq_true rfl)) dL_isTicked_247 ⟨Nat.le_of_ble_eq_true rfl, Nat.le_of_ble_eq_true rfl⟩)) (fun r_1408 hw => ?_)
              refine lv_iload hx hb dL_isTicked_250 (lv_at hl 6 rfl) ?_
              refine lv_iload hx hb dL_isTicked_252 (lv_at hl 15 rfl) ?_
              refine lv_if_eq (tgt := 267) hx hb dL_isTicked_254 (by decide) (fun _ => ?_) (fun c9 => absurd c_1402 c9)
              refine lv_iconst (v := 0) hx hb dL_isTicked_267 (by decide) ?_
              refine lv_iadd hx hb dL_isTicked_268 ?_
              refine lv_icmp_ne (tgt := 316) hx hb dL_isTicked_269 (by decide) (fun c_1409 => ?_) (fun c_1409 => ?_)
              · have hw := hw.2 c_1409
                exact hw.elim
              · have hw := hw.1 c_1409
                refine lv_aload_n hx hb dL_isTicked_272 rfl (lv_at hl 0 rfl) ?_
                have hPc : va_P (eD E) vwCl (wX E ax gx_L lt_L mo_L ad_L ln_L PL_L pf_L pw_L pk_L lw_L lk_L ik_L) H := hP.part [0, 1, 2, 3, 4, 5, 6] rfl
                refine vp_callSi (va_Run.run (va_runV (As := []) (rest := []) ⟨hx, hb, hml, hown, hta⟩ (c_X2_marks E l ax gx_L lt_L mo_L ad_L ln_L PL_L pf_L pw_L pk_L lw_L lk_L ik_L _ hw) (pcV (n := 0) hta tw_219 tw_216 tw_1 tw_217 tw_218 rfl rfl hd_X2_marks ⟨Nat.le_of_ble_eq_true rfl, Nat.le_of_ble_eq_true rfl⟩) ⟨fbR, va_recv hKE.1 hP (ci := 3) (q0 := 0) rfl rfl, fun U hU hW => ⟨rfl, preR.mk hPc hKE hU hW⟩⟩ rfl rfl hl.1 rfl (lv_room (Nat.le_of_ble_eq_true rfl)) dL_isTicked_273 ⟨Nat.le_of_ble_eq_true rfl, Nat.le_of_ble_eq_true rfl⟩)) (fun r_1410 hw => ?_)
                refine lv_iload hx hb dL_isTicked_276 (lv_at hl 7 rfl) ?_
                refine lv_icmp_lt (tgt := 316) hx hb dL_isTicked_278 (by decide) (fun c_1411 => ?_) (fun c_1411 => ?_)
                · have hw := hw.1 c_1411
                  exact hw.elim
                · have hw := hw.2 c_1411
                  refine lv_aload_n hx hb dL_isTicked_281 rfl (lv_at hl 0 rfl) ?_
                  have hPc : va_P (eD E) vwCl (wX E ax gx_L lt_L mo_L ad_L ln_L PL_L pf_L pw_L pk_L lw_L lk_L ik_L) H := hP.part [0, 1, 2, 3, 4, 5, 6] rfl
                  refine vp_callSi (va_Run.run (va_runV (As := []) (rest := []) ⟨hx, hb, hml, hown, hta⟩ (c_X2_marks E l ax gx_L lt_L mo_L ad_L ln_L PL_L pf_L pw_L pk_L lw_L lk_L ik_L _ hw) (pcV (n := 0) hta tw_219 tw_216 tw_1 tw_217 tw_218 rfl rfl hd_X2_marks ⟨Nat.le_of_ble_eq_true rfl, Nat.le_of_ble_eq_true rfl⟩) ⟨fbR, va_recv hKE.1 hP (ci := 3) (q0 := 0) rfl rfl, fun U hU hW => ⟨rfl, preR.mk hPc hKE hU hW⟩⟩ rfl rfl hl.1 rfl (lv_room (Nat.le_of_ble_eq_true rfl)) dL_isTicked_282 ⟨Nat.le_of_ble_eq_true rfl, Nat.le_of_ble_eq_true rfl⟩)) (fun r_1412 hw => ?_)
                  refine lv_iload hx hb dL_isTicked_285 (lv_at hl 7 rfl) ?_
                  refine lv_iconst (v := 1) hx hb dL_isTicked_287 (by decide) ?_
                  refine lv_iadd hx hb dL_isTicked_288 ?_
                  refine lv_icmp_gt (tgt := 316) hx hb dL_isTicked_289 (by decide) (fun c_1413 => ?_) (fun c_1413 => ?_)
                  · have hw := hw.1 c_1413
                    exact hw.elim
                  · have hw := hw.2 c_1413
                    refine lv_aload_n hx hb dL_isTicked_292 rfl (lv_at hl 0 rfl) ?_
                    have hPc : va_P (eD E) vwCl (wX E ax gx_L lt_L mo_L ad_L ln_L PL_L pf_L pw_L pk_L lw_L lk_L ik_L) H := hP.part [0, 1, 2, 3, 4, 5, 6] rfl
                    refine vp_callSi (va_Run.run (va_runV (As := []) (rest := []) ⟨hx, hb, hml, hown, hta⟩ (c_X2_queued E l ax gx_L lt_L mo_L ad_L ln_L PL_L pf_L pw_L pk_L lw_L lk_L ik_L _ hw) (pcV (n := 0) hta tw_510 tw_507 tw_1 tw_508 tw_509 rfl rfl hd_X2_queued ⟨Nat.le_of_ble_eq_true rfl, Nat.le_of_ble_eq_true rfl⟩) ⟨fbR, va_recv hKE.1 hP (ci := 3) (q0 := 0) rfl rfl, fun U hU hW => ⟨rfl, preR.mk hPc hKE hU hW⟩⟩ rfl rfl hl.1 rfl (lv_room (Nat.le_of_ble_eq_true rfl)) dL_isTicked_293 ⟨Nat.le_of_ble_eq_true rfl, Nat.le_of_ble_eq_true rfl⟩)) (fun r_1414 hw => ?_)
                    refine lv_iload hx hb dL_isTicked_296 (lv_at hl 4 rfl) ?_
                    refine lv_icmp_eq (tgt := 312) hx hb dL_isTicked_298 (by decide) (fun c_1415 => ?_) (fun c_1415 => ?_)
                    · have hw := hw.1 c_1415
                      refine lv_iconst (v := 1) hx hb dL_isTicked_312 (by decide) ?_
                      refine lv_goto (tgt := 317) hx hb dL_isTicked_313 (by decide) ?_
                      refine lv_istore (lv' := [(17, .int 1), (0, .ref (ax 0)), (1, .ref (bx 0)), (2, .ref (bx 1)), (3, .int x3), (4, .int x4), (5, .int x5), (6, .int x6), (7, .int x7), (8, .int x8), (9, .int x9), (10, .int x10), (11, .int x11), (12, .int x12), (13, .int x13), (14, .int x14), (15, .int x15), (16, .int x16)]) hx hb dL_isTicked_317 hl (by decide) rfl (fun ls hl => ?_)
                      obtain ⟨n_1472, hw⟩ := hw
                      exact loop_319 n_1472 gx_L lt_L mo_L ad_L ln_L PL_L pf_L pw_L pk_L lw_L lk_L ik_L cw_L mw_L x7 x8 x9 x10 x11 x13 x15 x16 hw _ _ hP hD hS ls (lv_sub hl [1, 2, 3, 8, 9, 10, 11, 12, 14, 16, 17, 0] rfl)
                    · have hw := hw.2 c_1415
                      refine lv_aload_n hx hb dL_isTicked_301 rfl (lv_at hl 0 rfl) ?_
                      have hPc : va_P (eD E) vwCl (wX E ax gx_L lt_L mo_L ad_L ln_L PL_L pf_L pw_L pk_L lw_L lk_L ik_L) H := hP.part [0, 1, 2, 3, 4, 5, 6] rfl
                      refine vp_callSi (va_Run.run (va_runV (As := []) (rest := []) ⟨hx, hb, hml, hown, hta⟩ (c_X2_queued E l ax gx_L lt_L mo_L ad_L ln_L PL_L pf_L pw_L pk_L lw_L lk_L ik_L _ hw) (pcV (n := 0) hta tw_510 tw_507 tw_1 tw_508 tw_509 rfl rfl hd_X2_queued ⟨Nat.le_of_ble_eq_true rfl, Nat.le_of_ble_eq_true rfl⟩) ⟨fbR, va_recv hKE.1 hP (ci := 3) (q0 := 0) rfl rfl, fun U hU hW => ⟨rfl, preR.mk hPc hKE hU hW⟩⟩ rfl rfl hl.1 rfl (lv_room (Nat.le_of_ble_eq_true rfl)) dL_isTicked_302 ⟨Nat.le_of_ble_eq_true rfl, Nat.le_of_ble_eq_true rfl⟩)) (fun r_1473 hw => ?_)
                      refine lv_iload hx hb dL_isTicked_305 (lv_at hl 4 rfl) ?_
                      refine lv_iconst (v := 1) hx hb dL_isTicked_307 (by decide) ?_
                      refine lv_isub hx hb dL_isTicked_308 ?_
                      refine lv_icmp_ne (tgt := 316) hx hb dL_isTicked_309 (by decide) (fun c_1474 => ?_) (fun c_1474 => ?_)
                      · have hw := hw.2 c_1474
                        exact hw.elim
                      · have hw := hw.1 c_1474
                        refine lv_iconst (v := 1) hx hb dL_isTicked_312 (by decide) ?_
                        refine lv_goto (tgt := 317) hx hb dL_isTicked_313 (by decide) ?_
                        refine lv_istore (lv' := [(17, .int 1), (0, .ref (ax 0)), (1, .ref (bx 0)), (2, .ref (bx 1)), (3, .int x3), (4, .int x4), (5, .int x5), (6, .int x6), (7, .int x7), (8, .int x8), (9, .int x9), (10, .int x10), (11, .int x11), (12, .int x12), (13, .int x13), (14, .int x14), (15, .int x15), (16, .int x16)]) hx hb dL_isTicked_317 hl (by decide) rfl (fun ls hl => ?_)
                        obtain ⟨n_1475, hw⟩ := hw
                        exact loop_319 n_1475 gx_L lt_L mo_L ad_L ln_L PL_L pf_L pw_L pk_L lw_L lk_L ik_L cw_L mw_L x7 x8 x9 x10 x11 x13 x15 x16 hw _ _ hP hD hS ls (lv_sub hl [1, 2, 3, 8, 9, 10, 11, 12, 14, 16, 17, 0] rfl)
      · have hw := hw.2 c_1402
        refine lv_iconst (v := 1) hx hb dL_isTicked_202 (by decide) ?_
        refine lv_goto (tgt := 207) hx hb dL_isTicked_203 (by decide) ?_
        refine lv_icmp_ne (tgt := 316) hx hb dL_isTicked_207 (by decide) (fun c_1476 => ?_) (fun c_1476 => ?_)
        · have hw := hw.2 c_1476
          exact hw.elim
        · have hw := hw.1 c_1476
          refine lv_aload_n hx hb dL_isTicked_210 rfl (lv_at hl 0 rfl) ?_
          have hPc : va_P (eD E) vwCl (wX E ax gx_L lt_L mo_L ad_L ln_L PL_L pf_L pw_L pk_L lw_L lk_L ik_L) H := hP.part [0, 1, 2, 3, 4, 5, 6] rfl
          refine vp_callSi (va_Run.run (va_runV (As := []) (rest := []) ⟨hx, hb, hml, hown, hta⟩ (c_X2_timeLeft E l ax gx_L lt_L mo_L ad_L ln_L PL_L pf_L pw_L pk_L lw_L lk_L ik_L _ hw) (pcV (n := 0) hta tw_518 tw_515 tw_1 tw_516 tw_517 rfl rfl hd_X2_timeLeft ⟨Nat.le_of_ble_eq_true rfl, Nat.le_of_ble_eq_true rfl⟩) ⟨fbR, va_recv hKE.1 hP (ci := 3) (q0 := 0) rfl rfl, fun U hU hW => ⟨rfl, preR.mk hPc hKE hU hW⟩⟩ rfl rfl hl.1 rfl (lv_room (Nat.le_of_ble_eq_true rfl)) dL_isTicked_211 ⟨Nat.le_of_ble_eq_true rfl, Nat.le_of_ble_eq_true rfl⟩)) (fun r_1477 hw => ?_)
          refine lv_iload_n hx hb dL_isTicked_214 rfl (lv_at hl 3 rfl) ?_
          refine lv_iconst (v := 1) hx hb dL_isTicked_215 (by decide) ?_
          refine lv_isub hx hb dL_isTicked_216 ?_
          refine lv_icmp_ne (tgt := 316) hx hb dL_isTicked_217 (by decide) (fun c_1478 => ?_) (fun c_1478 => ?_)
          · have hw := hw.2 c_1478
            exact hw.elim
          · have hw := hw.1 c_1478
            refine lv_aload_n hx hb dL_isTicked_220 rfl (lv_at hl 0 rfl) ?_
            have hPc : va_P (eD E) vwCl (wX E ax gx_L lt_L mo_L ad_L ln_L PL_L pf_L pw_L pk_L lw_L lk_L ik_L) H := hP.part [0, 1, 2, 3, 4, 5, 6] rfl
            refine vp_callSi (va_Run.run (va_runV (As := []) (rest := []) ⟨hx, hb, hml, hown, hta⟩ (c_X2_stepsUp E l ax gx_L lt_L mo_L ad_L ln_L PL_L pf_L pw_L pk_L lw_L lk_L ik_L _ hw) (pcV (n := 0) hta tw_560 tw_557 tw_1 tw_558 tw_559 rfl rfl hd_X2_stepsUp ⟨Nat.le_of_ble_eq_true rfl, Nat.le_of_ble_eq_true rfl⟩) ⟨fbR, va_recv hKE.1 hP (ci := 3) (q0 := 0) rfl rfl, fun U hU hW => ⟨rfl, preR.mk hPc hKE hU hW⟩⟩ rfl rfl hl.1 rfl (lv_room (Nat.le_of_ble_eq_true rfl)) dL_isTicked_221 ⟨Nat.le_of_ble_eq_true rfl, Nat.le_of_ble_eq_true rfl⟩)) (fun r_1479 hw => ?_)
            refine lv_iload hx hb dL_isTicked_224 (lv_at hl 5 rfl) ?_
            refine lv_iload hx hb dL_isTicked_226 (lv_at hl 15 rfl) ?_
            refine lv_if_eq (tgt := 241) hx hb dL_isTicked_228 (by decide) (fun c9 => absurd c9 c_1402) (fun _ => ?_)
            refine lv_iload hx hb dL_isTicked_231 (lv_at hl 13 rfl) ?_
            refine lv_iconst (v := 1) hx hb dL_isTicked_233 (by decide) ?_
            refine lv_icmp_ne (tgt := 241) hx hb dL_isTicked_234 (by decide) (fun c_1480 => ?_) (fun c_1480 => ?_)
            · have hw := hw.2 c_1480
              refine lv_iconst (v := 0) hx hb dL_isTicked_241 (by decide) ?_
              refine lv_iadd hx hb dL_isTicked_242 ?_
              refine lv_icmp_ne (tgt := 316) hx hb dL_isTicked_243 (by decide) (fun c_1481 => ?_) (fun c_1481 => ?_)
              · have hw := hw.2 c_1481
                exact hw.elim
              · have hw := hw.1 c_1481
                refine lv_aload_n hx hb dL_isTicked_246 rfl (lv_at hl 0 rfl) ?_
                have hPc : va_P (eD E) vwCl (wX E ax gx_L lt_L mo_L ad_L ln_L PL_L pf_L pw_L pk_L lw_L lk_L ik_L) H := hP.part [0, 1, 2, 3, 4, 5, 6] rfl
                refine vp_callSi (va_Run.run (va_runV (As := []) (rest := []) ⟨hx, hb, hml, hown, hta⟩ (c_X2_stepsDown E l ax gx_L lt_L mo_L ad_L ln_L PL_L pf_L pw_L pk_L lw_L lk_L ik_L _ hw) (pcV (n := 0) hta tw_565 tw_562 tw_1 tw_563 tw_564 rfl rfl hd_X2_stepsDown ⟨Nat.le_of_ble_eq_true rfl, Nat.le_of_ble_eq_true rfl⟩) ⟨fbR, va_recv hKE.1 hP (ci := 3) (q0 := 0) rfl rfl, fun U hU hW => ⟨rfl, preR.mk hPc hKE hU hW⟩⟩ rfl rfl hl.1 rfl (lv_room (Nat.le_of_ble_eq_true rfl)) dL_isTicked_247 ⟨Nat.le_of_ble_eq_true rfl, Nat.le_of_ble_eq_true rfl⟩)) (fun r_1482 hw => ?_)
                refine lv_iload hx hb dL_isTicked_250 (lv_at hl 6 rfl) ?_
                refine lv_iload hx hb dL_isTicked_252 (lv_at hl 15 rfl) ?_
                refine lv_if_eq (tgt := 267) hx hb dL_isTicked_254 (by decide) (fun c9 => absurd c9 c_1402) (fun _ => ?_)
                refine lv_iload hx hb dL_isTicked_257 (lv_at hl 13 rfl) ?_
                refine lv_iconst (v := 2) hx hb dL_isTicked_259 (by decide) ?_
                refine lv_icmp_ne (tgt := 267) hx hb dL_isTicked_260 (by decide) (fun c_1483 => ?_) (fun c_1483 => ?_)
                · have hw := hw.2 c_1483
                  refine lv_iconst (v := 0) hx hb dL_isTicked_267 (by decide) ?_
                  refine lv_iadd hx hb dL_isTicked_268 ?_
                  refine lv_icmp_ne (tgt := 316) hx hb dL_isTicked_269 (by decide) (fun c_1484 => ?_) (fun c_1484 => ?_)
                  · have hw := hw.2 c_1484
                    exact hw.elim
                  · have hw := hw.1 c_1484
                    refine lv_aload_n hx hb dL_isTicked_272 rfl (lv_at hl 0 rfl) ?_
                    have hPc : va_P (eD E) vwCl (wX E ax gx_L lt_L mo_L ad_L ln_L PL_L pf_L pw_L pk_L lw_L lk_L ik_L) H := hP.part [0, 1, 2, 3, 4, 5, 6] rfl
                    refine vp_callSi (va_Run.run (va_runV (As := []) (rest := []) ⟨hx, hb, hml, hown, hta⟩ (c_X2_marks E l ax gx_L lt_L mo_L ad_L ln_L PL_L pf_L pw_L pk_L lw_L lk_L ik_L _ hw) (pcV (n := 0) hta tw_219 tw_216 tw_1 tw_217 tw_218 rfl rfl hd_X2_marks ⟨Nat.le_of_ble_eq_true rfl, Nat.le_of_ble_eq_true rfl⟩) ⟨fbR, va_recv hKE.1 hP (ci := 3) (q0 := 0) rfl rfl, fun U hU hW => ⟨rfl, preR.mk hPc hKE hU hW⟩⟩ rfl rfl hl.1 rfl (lv_room (Nat.le_of_ble_eq_true rfl)) dL_isTicked_273 ⟨Nat.le_of_ble_eq_true rfl, Nat.le_of_ble_eq_true rfl⟩)) (fun r_1485 hw => ?_)
                    refine lv_iload hx hb dL_isTicked_276 (lv_at hl 7 rfl) ?_
                    refine lv_icmp_lt (tgt := 316) hx hb dL_isTicked_278 (by decide) (fun c_1486 => ?_) (fun c_1486 => ?_)
                    · have hw := hw.1 c_1486
                      exact hw.elim
                    · have hw := hw.2 c_1486
                      refine lv_aload_n hx hb dL_isTicked_281 rfl (lv_at hl 0 rfl) ?_
                      have hPc : va_P (eD E) vwCl (wX E ax gx_L lt_L mo_L ad_L ln_L PL_L pf_L pw_L pk_L lw_L lk_L ik_L) H := hP.part [0, 1, 2, 3, 4, 5, 6] rfl
                      refine vp_callSi (va_Run.run (va_runV (As := []) (rest := []) ⟨hx, hb, hml, hown, hta⟩ (c_X2_marks E l ax gx_L lt_L mo_L ad_L ln_L PL_L pf_L pw_L pk_L lw_L lk_L ik_L _ hw) (pcV (n := 0) hta tw_219 tw_216 tw_1 tw_217 tw_218 rfl rfl hd_X2_marks ⟨Nat.le_of_ble_eq_true rfl, Nat.le_of_ble_eq_true rfl⟩) ⟨fbR, va_recv hKE.1 hP (ci := 3) (q0 := 0) rfl rfl, fun U hU hW => ⟨rfl, preR.mk hPc hKE hU hW⟩⟩ rfl rfl hl.1 rfl (lv_room (Nat.le_of_ble_eq_true rfl)) dL_isTicked_282 ⟨Nat.le_of_ble_eq_true rfl, Nat.le_of_ble_eq_true rfl⟩)) (fun r_1487 hw => ?_)
                      refine lv_iload hx hb dL_isTicked_285 (lv_at hl 7 rfl) ?_
                      refine lv_iconst (v := 1) hx hb dL_isTicked_287 (by decide) ?_
                      refine lv_iadd hx hb dL_isTicked_288 ?_
                      refine lv_icmp_gt (tgt := 316) hx hb dL_isTicked_289 (by decide) (fun c_1488 => ?_) (fun c_1488 => ?_)
                      · have hw := hw.1 c_1488
                        exact hw.elim
                      · have hw := hw.2 c_1488
                        refine lv_aload_n hx hb dL_isTicked_292 rfl (lv_at hl 0 rfl) ?_
                        have hPc : va_P (eD E) vwCl (wX E ax gx_L lt_L mo_L ad_L ln_L PL_L pf_L pw_L pk_L lw_L lk_L ik_L) H := hP.part [0, 1, 2, 3, 4, 5, 6] rfl
                        refine vp_callSi (va_Run.run (va_runV (As := []) (rest := []) ⟨hx, hb, hml, hown, hta⟩ (c_X2_queued E l ax gx_L lt_L mo_L ad_L ln_L PL_L pf_L pw_L pk_L lw_L lk_L ik_L _ hw) (pcV (n := 0) hta tw_510 tw_507 tw_1 tw_508 tw_509 rfl rfl hd_X2_queued ⟨Nat.le_of_ble_eq_true rfl, Nat.le_of_ble_eq_true rfl⟩) ⟨fbR, va_recv hKE.1 hP (ci := 3) (q0 := 0) rfl rfl, fun U hU hW => ⟨rfl, preR.mk hPc hKE hU hW⟩⟩ rfl rfl hl.1 rfl (lv_room (Nat.le_of_ble_eq_true rfl)) dL_isTicked_293 ⟨Nat.le_of_ble_eq_true rfl, Nat.le_of_ble_eq_true rfl⟩)) (fun r_1489 hw => ?_)
                        refine lv_iload hx hb dL_isTicked_296 (lv_at hl 4 rfl) ?_
                        refine lv_icmp_eq (tgt := 312) hx hb dL_isTicked_298 (by decide) (fun c_1490 => ?_) (fun c_1490 => ?_)
                        · have hw := hw.1 c_1490
                          refine lv_iconst (v := 1) hx hb dL_isTicked_312 (by decide) ?_
                          refine lv_goto (tgt := 317) hx hb dL_isTicked_313 (by decide) ?_
                          refine lv_istore (lv' := [(17, .int 1), (0, .ref (ax 0)), (1, .ref (bx 0)), (2, .ref (bx 1)), (3, .int x3), (4, .int x4), (5, .int x5), (6, .int x6), (7, .int x7), (8, .int x8), (9, .int x9), (10, .int x10), (11, .int x11), (12, .int x12), (13, .int x13), (14, .int x14), (15, .int x15), (16, .int x16)]) hx hb dL_isTicked_317 hl (by decide) rfl (fun ls hl => ?_)
                          obtain ⟨n_1491, hw⟩ := hw
                          exact loop_319 n_1491 gx_L lt_L mo_L ad_L ln_L PL_L pf_L pw_L pk_L lw_L lk_L ik_L cw_L mw_L x7 x8 x9 x10 x11 x13 x15 x16 hw _ _ hP hD hS ls (lv_sub hl [1, 2, 3, 8, 9, 10, 11, 12, 14, 16, 17, 0] rfl)
                        · have hw := hw.2 c_1490
                          refine lv_aload_n hx hb dL_isTicked_301 rfl (lv_at hl 0 rfl) ?_
                          have hPc : va_P (eD E) vwCl (wX E ax gx_L lt_L mo_L ad_L ln_L PL_L pf_L pw_L pk_L lw_L lk_L ik_L) H := hP.part [0, 1, 2, 3, 4, 5, 6] rfl
                          refine vp_callSi (va_Run.run (va_runV (As := []) (rest := []) ⟨hx, hb, hml, hown, hta⟩ (c_X2_queued E l ax gx_L lt_L mo_L ad_L ln_L PL_L pf_L pw_L pk_L lw_L lk_L ik_L _ hw) (pcV (n := 0) hta tw_510 tw_507 tw_1 tw_508 tw_509 rfl rfl hd_X2_queued ⟨Nat.le_of_ble_eq_true rfl, Nat.le_of_ble_eq_true rfl⟩) ⟨fbR, va_recv hKE.1 hP (ci := 3) (q0 := 0) rfl rfl, fun U hU hW => ⟨rfl, preR.mk hPc hKE hU hW⟩⟩ rfl rfl hl.1 rfl (lv_room (Nat.le_of_ble_eq_true rfl)) dL_isTicked_302 ⟨Nat.le_of_ble_eq_true rfl, Nat.le_of_ble_eq_true rfl⟩)) (fun r_1492 hw => ?_)
                          refine lv_iload hx hb dL_isTicked_305 (lv_at hl 4 rfl) ?_
                          refine lv_iconst (v := 1) hx hb dL_isTicked_307 (by decide) ?_
                          refine lv_isub hx hb dL_isTicked_308 ?_
                          refine lv_icmp_ne (tgt := 316) hx hb dL_isTicked_309 (by decide) (fun c_1493 => ?_) (fun c_1493 => ?_)
                          · have hw := hw.2 c_1493
                            exact hw.elim
                          · have hw := hw.1 c_1493
                            refine lv_iconst (v := 1) hx hb dL_isTicked_312 (by decide) ?_
                            refine lv_goto (tgt := 317) hx hb dL_isTicked_313 (by decide) ?_
                            refine lv_istore (lv' := [(17, .int 1), (0, .ref (ax 0)), (1, .ref (bx 0)), (2, .ref (bx 1)), (3, .int x3), (4, .int x4), (5, .int x5), (6, .int x6), (7, .int x7), (8, .int x8), (9, .int x9), (10, .int x10), (11, .int x11), (12, .int x12), (13, .int x13), (14, .int x14), (15, .int x15), (16, .int x16)]) hx hb dL_isTicked_317 hl (by decide) rfl (fun ls hl => ?_)
                            obtain ⟨n_1494, hw⟩ := hw
                            exact loop_319 n_1494 gx_L lt_L mo_L ad_L ln_L PL_L pf_L pw_L pk_L lw_L lk_L ik_L cw_L mw_L x7 x8 x9 x10 x11 x13 x15 x16 hw _ _ hP hD hS ls (lv_sub hl [1, 2, 3, 8, 9, 10, 11, 12, 14, 16, 17, 0] rfl)
                · have hw := hw.1 c_1483
                  refine lv_iconst (v := 1) hx hb dL_isTicked_263 (by decide) ?_
                  refine lv_goto (tgt := 268) hx hb dL_isTicked_264 (by decide) ?_
                  refine lv_iadd hx hb dL_isTicked_268 ?_
                  refine lv_icmp_ne (tgt := 316) hx hb dL_isTicked_269 (by decide) (fun c_1495 => ?_) (fun c_1495 => ?_)
                  · have hw := hw.2 c_1495
                    exact hw.elim
                  · have hw := hw.1 c_1495
                    refine lv_aload_n hx hb dL_isTicked_272 rfl (lv_at hl 0 rfl) ?_
                    have hPc : va_P (eD E) vwCl (wX E ax gx_L lt_L mo_L ad_L ln_L PL_L pf_L pw_L pk_L lw_L lk_L ik_L) H := hP.part [0, 1, 2, 3, 4, 5, 6] rfl
                    refine vp_callSi (va_Run.run (va_runV (As := []) (rest := []) ⟨hx, hb, hml, hown, hta⟩ (c_X2_marks E l ax gx_L lt_L mo_L ad_L ln_L PL_L pf_L pw_L pk_L lw_L lk_L ik_L _ hw) (pcV (n := 0) hta tw_219 tw_216 tw_1 tw_217 tw_218 rfl rfl hd_X2_marks ⟨Nat.le_of_ble_eq_true rfl, Nat.le_of_ble_eq_true rfl⟩) ⟨fbR, va_recv hKE.1 hP (ci := 3) (q0 := 0) rfl rfl, fun U hU hW => ⟨rfl, preR.mk hPc hKE hU hW⟩⟩ rfl rfl hl.1 rfl (lv_room (Nat.le_of_ble_eq_true rfl)) dL_isTicked_273 ⟨Nat.le_of_ble_eq_true rfl, Nat.le_of_ble_eq_true rfl⟩)) (fun r_1496 hw => ?_)
                    refine lv_iload hx hb dL_isTicked_276 (lv_at hl 7 rfl) ?_
                    refine lv_icmp_lt (tgt := 316) hx hb dL_isTicked_278 (by decide) (fun c_1497 => ?_) (fun c_1497 => ?_)
                    · have hw := hw.1 c_1497
                      exact hw.elim
                    · have hw := hw.2 c_1497
                      refine lv_aload_n hx hb dL_isTicked_281 rfl (lv_at hl 0 rfl) ?_
                      have hPc : va_P (eD E) vwCl (wX E ax gx_L lt_L mo_L ad_L ln_L PL_L pf_L pw_L pk_L lw_L lk_L ik_L) H := hP.part [0, 1, 2, 3, 4, 5, 6] rfl
                      refine vp_callSi (va_Run.run (va_runV (As := []) (rest := []) ⟨hx, hb, hml, hown, hta⟩ (c_X2_marks E l ax gx_L lt_L mo_L ad_L ln_L PL_L pf_L pw_L pk_L lw_L lk_L ik_L _ hw) (pcV (n := 0) hta tw_219 tw_216 tw_1 tw_217 tw_218 rfl rfl hd_X2_marks ⟨Nat.le_of_ble_eq_true rfl, Nat.le_of_ble_eq_true rfl⟩) ⟨fbR, va_recv hKE.1 hP (ci := 3) (q0 := 0) rfl rfl, fun U hU hW => ⟨rfl, preR.mk hPc hKE hU hW⟩⟩ rfl rfl hl.1 rfl (lv_room (Nat.le_of_ble_eq_true rfl)) dL_isTicked_282 ⟨Nat.le_of_ble_eq_true rfl, Nat.le_of_ble_eq_true rfl⟩)) (fun r_1498 hw => ?_)
                      refine lv_iload hx hb dL_isTicked_285 (lv_at hl 7 rfl) ?_
                      refine lv_iconst (v := 1) hx hb dL_isTicked_287 (by decide) ?_
                      refine lv_iadd hx hb dL_isTicked_288 ?_
                      refine lv_icmp_gt (tgt := 316) hx hb dL_isTicked_289 (by decide) (fun c_1499 => ?_) (fun c_1499 => ?_)
                      · have hw := hw.1 c_1499
                        exact hw.elim
                      · have hw := hw.2 c_1499
                        refine lv_aload_n hx hb dL_isTicked_292 rfl (lv_at hl 0 rfl) ?_
                        have hPc : va_P (eD E) vwCl (wX E ax gx_L lt_L mo_L ad_L ln_L PL_L pf_L pw_L pk_L lw_L lk_L ik_L) H := hP.part [0, 1, 2, 3, 4, 5, 6] rfl
                        refine vp_callSi (va_Run.run (va_runV (As := []) (rest := []) ⟨hx, hb, hml, hown, hta⟩ (c_X2_queued E l ax gx_L lt_L mo_L ad_L ln_L PL_L pf_L pw_L pk_L lw_L lk_L ik_L _ hw) (pcV (n := 0) hta tw_510 tw_507 tw_1 tw_508 tw_509 rfl rfl hd_X2_queued ⟨Nat.le_of_ble_eq_true rfl, Nat.le_of_ble_eq_true rfl⟩) ⟨fbR, va_recv hKE.1 hP (ci := 3) (q0 := 0) rfl rfl, fun U hU hW => ⟨rfl, preR.mk hPc hKE hU hW⟩⟩ rfl rfl hl.1 rfl (lv_room (Nat.le_of_ble_eq_true rfl)) dL_isTicked_293 ⟨Nat.le_of_ble_eq_true rfl, Nat.le_of_ble_eq_true rfl⟩)) (fun r_1500 hw => ?_)
                        refine lv_iload hx hb dL_isTicked_296 (lv_at hl 4 rfl) ?_
                        refine lv_icmp_eq (tgt := 312) hx hb dL_isTicked_298 (by decide) (fun c_1501 => ?_) (fun c_1501 => ?_)
                        · have hw := hw.1 c_1501
                          refine lv_iconst (v := 1) hx hb dL_isTicked_312 (by decide) ?_
                          refine lv_goto (tgt := 317) hx hb dL_isTicked_313 (by decide) ?_
                          refine lv_istore (lv' := [(17, .int 1), (0, .ref (ax 0)), (1, .ref (bx 0)), (2, .ref (bx 1)), (3, .int x3), (4, .int x4), (5, .int x5), (6, .int x6), (7, .int x7), (8, .int x8), (9, .int x9), (10, .int x10), (11, .int x11), (12, .int x12), (13, .int x13), (14, .int x14), (15, .int x15), (16, .int x16)]) hx hb dL_isTicked_317 hl (by decide) rfl (fun ls hl => ?_)
                          obtain ⟨n_1502, hw⟩ := hw
                          exact loop_319 n_1502 gx_L lt_L mo_L ad_L ln_L PL_L pf_L pw_L pk_L lw_L lk_L ik_L cw_L mw_L x7 x8 x9 x10 x11 x13 x15 x16 hw _ _ hP hD hS ls (lv_sub hl [1, 2, 3, 8, 9, 10, 11, 12, 14, 16, 17, 0] rfl)
                        · have hw := hw.2 c_1501
                          refine lv_aload_n hx hb dL_isTicked_301 rfl (lv_at hl 0 rfl) ?_
                          have hPc : va_P (eD E) vwCl (wX E ax gx_L lt_L mo_L ad_L ln_L PL_L pf_L pw_L pk_L lw_L lk_L ik_L) H := hP.part [0, 1, 2, 3, 4, 5, 6] rfl
                          refine vp_callSi (va_Run.run (va_runV (As := []) (rest := []) ⟨hx, hb, hml, hown, hta⟩ (c_X2_queued E l ax gx_L lt_L mo_L ad_L ln_L PL_L pf_L pw_L pk_L lw_L lk_L ik_L _ hw) (pcV (n := 0) hta tw_510 tw_507 tw_1 tw_508 tw_509 rfl rfl hd_X2_queued ⟨Nat.le_of_ble_eq_true rfl, Nat.le_of_ble_eq_true rfl⟩) ⟨fbR, va_recv hKE.1 hP (ci := 3) (q0 := 0) rfl rfl, fun U hU hW => ⟨rfl, preR.mk hPc hKE hU hW⟩⟩ rfl rfl hl.1 rfl (lv_room (Nat.le_of_ble_eq_true rfl)) dL_isTicked_302 ⟨Nat.le_of_ble_eq_true rfl, Nat.le_of_ble_eq_true rfl⟩)) (fun r_1503 hw => ?_)
                          refine lv_iload hx hb dL_isTicked_305 (lv_at hl 4 rfl) ?_
                          refine lv_iconst (v := 1) hx hb dL_isTicked_307 (by decide) ?_
                          refine lv_isub hx hb dL_isTicked_308 ?_
                          refine lv_icmp_ne (tgt := 316) hx hb dL_isTicked_309 (by decide) (fun c_1504 => ?_) (fun c_1504 => ?_)
                          · have hw := hw.2 c_1504
                            exact hw.elim
                          · have hw := hw.1 c_1504
                            refine lv_iconst (v := 1) hx hb dL_isTicked_312 (by decide) ?_
                            refine lv_goto (tgt := 317) hx hb dL_isTicked_313 (by decide) ?_
                            refine lv_istore (lv' := [(17, .int 1), (0, .ref (ax 0)), (1, .ref (bx 0)), (2, .ref (bx 1)), (3, .int x3), (4, .int x4), (5, .int x5), (6, .int x6), (7, .int x7), (8, .int x8), (9, .int x9), (10, .int x10), (11, .int x11), (12, .int x12), (13, .int x13), (14, .int x14), (15, .int x15), (16, .int x16)]) hx hb dL_isTicked_317 hl (by decide) rfl (fun ls hl => ?_)
                            obtain ⟨n_1505, hw⟩ := hw
                            exact loop_319 n_1505 gx_L lt_L mo_L ad_L ln_L PL_L pf_L pw_L pk_L lw_L lk_L ik_L cw_L mw_L x7 x8 x9 x10 x11 x13 x15 x16 hw _ _ hP hD hS ls (lv_sub hl [1, 2, 3, 8, 9, 10, 11, 12, 14, 16, 17, 0] rfl)
            · have hw := hw.1 c_1480
              refine lv_iconst (v := 1) hx hb dL_isTicked_237 (by decide) ?_
              refine lv_goto (tgt := 242) hx hb dL_isTicked_238 (by decide) ?_
              refine lv_iadd hx hb dL_isTicked_242 ?_
              refine lv_icmp_ne (tgt := 316) hx hb dL_isTicked_243 (by decide) (fun c_1506 => ?_) (fun c_1506 => ?_)
              · have hw := hw.2 c_1506
                exact hw.elim
              · have hw := hw.1 c_1506
                refine lv_aload_n hx hb dL_isTicked_246 rfl (lv_at hl 0 rfl) ?_
                have hPc : va_P (eD E) vwCl (wX E ax gx_L lt_L mo_L ad_L ln_L PL_L pf_L pw_L pk_L lw_L lk_L ik_L) H := hP.part [0, 1, 2, 3, 4, 5, 6] rfl
                refine vp_callSi (va_Run.run (va_runV (As := []) (rest := []) ⟨hx, hb, hml, hown, hta⟩ (c_X2_stepsDown E l ax gx_L lt_L mo_L ad_L ln_L PL_L pf_L pw_L pk_L lw_L lk_L ik_L _ hw) (pcV (n := 0) hta tw_565 tw_562 tw_1 tw_563 tw_564 rfl rfl hd_X2_stepsDown ⟨Nat.le_of_ble_eq_true rfl, Nat.le_of_ble_eq_true rfl⟩) ⟨fbR, va_recv hKE.1 hP (ci := 3) (q0 := 0) rfl rfl, fun U hU hW => ⟨rfl, preR.mk hPc hKE hU hW⟩⟩ rfl rfl hl.1 rfl (lv_room (Nat.le_of_ble_eq_true rfl)) dL_isTicked_247 ⟨Nat.le_of_ble_eq_true rfl, Nat.le_of_ble_eq_true rfl⟩)) (fun r_1507 hw => ?_)
                refine lv_iload hx hb dL_isTicked_250 (lv_at hl 6 rfl) ?_
                refine lv_iload hx hb dL_isTicked_252 (lv_at hl 15 rfl) ?_
                refine lv_if_eq (tgt := 267) hx hb dL_isTicked_254 (by decide) (fun c9 => absurd c9 c_1402) (fun _ => ?_)
                refine lv_iload hx hb dL_isTicked_257 (lv_at hl 13 rfl) ?_
                refine lv_iconst (v := 2) hx hb dL_isTicked_259 (by decide) ?_
                refine lv_icmp_ne (tgt := 267) hx hb dL_isTicked_260 (by decide) (fun c_1508 => ?_) (fun c_1508 => ?_)
                · have hw := hw.2 c_1508
                  refine lv_iconst (v := 0) hx hb dL_isTicked_267 (by decide) ?_
                  refine lv_iadd hx hb dL_isTicked_268 ?_
                  refine lv_icmp_ne (tgt := 316) hx hb dL_isTicked_269 (by decide) (fun c_1509 => ?_) (fun c_1509 => ?_)
                  · have hw := hw.2 c_1509
                    exact hw.elim
                  · have hw := hw.1 c_1509
                    refine lv_aload_n hx hb dL_isTicked_272 rfl (lv_at hl 0 rfl) ?_
                    have hPc : va_P (eD E) vwCl (wX E ax gx_L lt_L mo_L ad_L ln_L PL_L pf_L pw_L pk_L lw_L lk_L ik_L) H := hP.part [0, 1, 2, 3, 4, 5, 6] rfl
                    refine vp_callSi (va_Run.run (va_runV (As := []) (rest := []) ⟨hx, hb, hml, hown, hta⟩ (c_X2_marks E l ax gx_L lt_L mo_L ad_L ln_L PL_L pf_L pw_L pk_L lw_L lk_L ik_L _ hw) (pcV (n := 0) hta tw_219 tw_216 tw_1 tw_217 tw_218 rfl rfl hd_X2_marks ⟨Nat.le_of_ble_eq_true rfl, Nat.le_of_ble_eq_true rfl⟩) ⟨fbR, va_recv hKE.1 hP (ci := 3) (q0 := 0) rfl rfl, fun U hU hW => ⟨rfl, preR.mk hPc hKE hU hW⟩⟩ rfl rfl hl.1 rfl (lv_room (Nat.le_of_ble_eq_true rfl)) dL_isTicked_273 ⟨Nat.le_of_ble_eq_true rfl, Nat.le_of_ble_eq_true rfl⟩)) (fun r_1510 hw => ?_)
                    refine lv_iload hx hb dL_isTicked_276 (lv_at hl 7 rfl) ?_
                    refine lv_icmp_lt (tgt := 316) hx hb dL_isTicked_278 (by decide) (fun c_1511 => ?_) (fun c_1511 => ?_)
                    · have hw := hw.1 c_1511
                      exact hw.elim
                    · have hw := hw.2 c_1511
                      refine lv_aload_n hx hb dL_isTicked_281 rfl (lv_at hl 0 rfl) ?_
                      have hPc : va_P (eD E) vwCl (wX E ax gx_L lt_L mo_L ad_L ln_L PL_L pf_L pw_L pk_L lw_L lk_L ik_L) H := hP.part [0, 1, 2, 3, 4, 5, 6] rfl
                      refine vp_callSi (va_Run.run (va_runV (As := []) (rest := []) ⟨hx, hb, hml, hown, hta⟩ (c_X2_marks E l ax gx_L lt_L mo_L ad_L ln_L PL_L pf_L pw_L pk_L lw_L lk_L ik_L _ hw) (pcV (n := 0) hta tw_219 tw_216 tw_1 tw_217 tw_218 rfl rfl hd_X2_marks ⟨Nat.le_of_ble_eq_true rfl, Nat.le_of_ble_eq_true rfl⟩) ⟨fbR, va_recv hKE.1 hP (ci := 3) (q0 := 0) rfl rfl, fun U hU hW => ⟨rfl, preR.mk hPc hKE hU hW⟩⟩ rfl rfl hl.1 rfl (lv_room (Nat.le_of_ble_eq_true rfl)) dL_isTicked_282 ⟨Nat.le_of_ble_eq_true rfl, Nat.le_of_ble_eq_true rfl⟩)) (fun r_1512 hw => ?_)
                      refine lv_iload hx hb dL_isTicked_285 (lv_at hl 7 rfl) ?_
                      refine lv_iconst (v := 1) hx hb dL_isTicked_287 (by decide) ?_
                      refine lv_iadd hx hb dL_isTicked_288 ?_
                      refine lv_icmp_gt (tgt := 316) hx hb dL_isTicked_289 (by decide) (fun c_1513 => ?_) (fun c_1513 => ?_)
                      · have hw := hw.1 c_1513
                        exact hw.elim
                      · have hw := hw.2 c_1513
                        refine lv_aload_n hx hb dL_isTicked_292 rfl (lv_at hl 0 rfl) ?_
                        have hPc : va_P (eD E) vwCl (wX E ax gx_L lt_L mo_L ad_L ln_L PL_L pf_L pw_L pk_L lw_L lk_L ik_L) H := hP.part [0, 1, 2, 3, 4, 5, 6] rfl
                        refine vp_callSi (va_Run.run (va_runV (As := []) (rest := []) ⟨hx, hb, hml, hown, hta⟩ (c_X2_queued E l ax gx_L lt_L mo_L ad_L ln_L PL_L pf_L pw_L pk_L lw_L lk_L ik_L _ hw) (pcV (n := 0) hta tw_510 tw_507 tw_1 tw_508 tw_509 rfl rfl hd_X2_queued ⟨Nat.le_of_ble_eq_true rfl, Nat.le_of_ble_eq_true rfl⟩) ⟨fbR, va_recv hKE.1 hP (ci := 3) (q0 := 0) rfl rfl, fun U hU hW => ⟨rfl, preR.mk hPc hKE hU hW⟩⟩ rfl rfl hl.1 rfl (lv_room (Nat.le_of_ble_eq_true rfl)) dL_isTicked_293 ⟨Nat.le_of_ble_eq_true rfl, Nat.le_of_ble_eq_true rfl⟩)) (fun r_1514 hw => ?_)
                        refine lv_iload hx hb dL_isTicked_296 (lv_at hl 4 rfl) ?_
                        refine lv_icmp_eq (tgt := 312) hx hb dL_isTicked_298 (by decide) (fun c_1515 => ?_) (fun c_1515 => ?_)
                        · have hw := hw.1 c_1515
                          refine lv_iconst (v := 1) hx hb dL_isTicked_312 (by decide) ?_
                          refine lv_goto (tgt := 317) hx hb dL_isTicked_313 (by decide) ?_
                          refine lv_istore (lv' := [(17, .int 1), (0, .ref (ax 0)), (1, .ref (bx 0)), (2, .ref (bx 1)), (3, .int x3), (4, .int x4), (5, .int x5), (6, .int x6), (7, .int x7), (8, .int x8), (9, .int x9), (10, .int x10), (11, .int x11), (12, .int x12), (13, .int x13), (14, .int x14), (15, .int x15), (16, .int x16)]) hx hb dL_isTicked_317 hl (by decide) rfl (fun ls hl => ?_)
                          obtain ⟨n_1516, hw⟩ := hw
                          exact loop_319 n_1516 gx_L lt_L mo_L ad_L ln_L PL_L pf_L pw_L pk_L lw_L lk_L ik_L cw_L mw_L x7 x8 x9 x10 x11 x13 x15 x16 hw _ _ hP hD hS ls (lv_sub hl [1, 2, 3, 8, 9, 10, 11, 12, 14, 16, 17, 0] rfl)
                        · have hw := hw.2 c_1515
                          refine lv_aload_n hx hb dL_isTicked_301 rfl (lv_at hl 0 rfl) ?_
                          have hPc : va_P (eD E) vwCl (wX E ax gx_L lt_L mo_L ad_L ln_L PL_L pf_L pw_L pk_L lw_L lk_L ik_L) H := hP.part [0, 1, 2, 3, 4, 5, 6] rfl
                          refine vp_callSi (va_Run.run (va_runV (As := []) (rest := []) ⟨hx, hb, hml, hown, hta⟩ (c_X2_queued E l ax gx_L lt_L mo_L ad_L ln_L PL_L pf_L pw_L pk_L lw_L lk_L ik_L _ hw) (pcV (n := 0) hta tw_510 tw_507 tw_1 tw_508 tw_509 rfl rfl hd_X2_queued ⟨Nat.le_of_ble_eq_true rfl, Nat.le_of_ble_eq_true rfl⟩) ⟨fbR, va_recv hKE.1 hP (ci := 3) (q0 := 0) rfl rfl, fun U hU hW => ⟨rfl, preR.mk hPc hKE hU hW⟩⟩ rfl rfl hl.1 rfl (lv_room (Nat.le_of_ble_eq_true rfl)) dL_isTicked_302 ⟨Nat.le_of_ble_eq_true rfl, Nat.le_of_ble_eq_true rfl⟩)) (fun r_1517 hw => ?_)
                          refine lv_iload hx hb dL_isTicked_305 (lv_at hl 4 rfl) ?_
                          refine lv_iconst (v := 1) hx hb dL_isTicked_307 (by decide) ?_
                          refine lv_isub hx hb dL_isTicked_308 ?_
                          refine lv_icmp_ne (tgt := 316) hx hb dL_isTicked_309 (by decide) (fun c_1518 => ?_) (fun c_1518 => ?_)
                          · have hw := hw.2 c_1518
                            exact hw.elim
                          · have hw := hw.1 c_1518
                            refine lv_iconst (v := 1) hx hb dL_isTicked_312 (by decide) ?_
                            refine lv_goto (tgt := 317) hx hb dL_isTicked_313 (by decide) ?_
                            refine lv_istore (lv' := [(17, .int 1), (0, .ref (ax 0)), (1, .ref (bx 0)), (2, .ref (bx 1)), (3, .int x3), (4, .int x4), (5, .int x5), (6, .int x6), (7, .int x7), (8, .int x8), (9, .int x9), (10, .int x10), (11, .int x11), (12, .int x12), (13, .int x13), (14, .int x14), (15, .int x15), (16, .int x16)]) hx hb dL_isTicked_317 hl (by decide) rfl (fun ls hl => ?_)
                            obtain ⟨n_1519, hw⟩ := hw
                            exact loop_319 n_1519 gx_L lt_L mo_L ad_L ln_L PL_L pf_L pw_L pk_L lw_L lk_L ik_L cw_L mw_L x7 x8 x9 x10 x11 x13 x15 x16 hw _ _ hP hD hS ls (lv_sub hl [1, 2, 3, 8, 9, 10, 11, 12, 14, 16, 17, 0] rfl)
                · have hw := hw.1 c_1508
                  refine lv_iconst (v := 1) hx hb dL_isTicked_263 (by decide) ?_
                  refine lv_goto (tgt := 268) hx hb dL_isTicked_264 (by decide) ?_
                  refine lv_iadd hx hb dL_isTicked_268 ?_
                  refine lv_icmp_ne (tgt := 316) hx hb dL_isTicked_269 (by decide) (fun c_1520 => ?_) (fun c_1520 => ?_)
                  · have hw := hw.2 c_1520
                    exact hw.elim
                  · have hw := hw.1 c_1520
                    refine lv_aload_n hx hb dL_isTicked_272 rfl (lv_at hl 0 rfl) ?_
                    have hPc : va_P (eD E) vwCl (wX E ax gx_L lt_L mo_L ad_L ln_L PL_L pf_L pw_L pk_L lw_L lk_L ik_L) H := hP.part [0, 1, 2, 3, 4, 5, 6] rfl
                    refine vp_callSi (va_Run.run (va_runV (As := []) (rest := []) ⟨hx, hb, hml, hown, hta⟩ (c_X2_marks E l ax gx_L lt_L mo_L ad_L ln_L PL_L pf_L pw_L pk_L lw_L lk_L ik_L _ hw) (pcV (n := 0) hta tw_219 tw_216 tw_1 tw_217 tw_218 rfl rfl hd_X2_marks ⟨Nat.le_of_ble_eq_true rfl, Nat.le_of_ble_eq_true rfl⟩) ⟨fbR, va_recv hKE.1 hP (ci := 3) (q0 := 0) rfl rfl, fun U hU hW => ⟨rfl, preR.mk hPc hKE hU hW⟩⟩ rfl rfl hl.1 rfl (lv_room (Nat.le_of_ble_eq_true rfl)) dL_isTicked_273 ⟨Nat.le_of_ble_eq_true rfl, Nat.le_of_ble_eq_true rfl⟩)) (fun r_1521 hw => ?_)
                    refine lv_iload hx hb dL_isTicked_276 (lv_at hl 7 rfl) ?_
                    refine lv_icmp_lt (tgt := 316) hx hb dL_isTicked_278 (by decide) (fun c_1522 => ?_) (fun c_1522 => ?_)
                    · have hw := hw.1 c_1522
                      exact hw.elim
                    · have hw := hw.2 c_1522
                      refine lv_aload_n hx hb dL_isTicked_281 rfl (lv_at hl 0 rfl) ?_
                      have hPc : va_P (eD E) vwCl (wX E ax gx_L lt_L mo_L ad_L ln_L PL_L pf_L pw_L pk_L lw_L lk_L ik_L) H := hP.part [0, 1, 2, 3, 4, 5, 6] rfl
                      refine vp_callSi (va_Run.run (va_runV (As := []) (rest := []) ⟨hx, hb, hml, hown, hta⟩ (c_X2_marks E l ax gx_L lt_L mo_L ad_L ln_L PL_L pf_L pw_L pk_L lw_L lk_L ik_L _ hw) (pcV (n := 0) hta tw_219 tw_216 tw_1 tw_217 tw_218 rfl rfl hd_X2_marks ⟨Nat.le_of_ble_eq_true rfl, Nat.le_of_ble_eq_true rfl⟩) ⟨fbR, va_recv hKE.1 hP (ci := 3) (q0 := 0) rfl rfl, fun U hU hW => ⟨rfl, preR.mk hPc hKE hU hW⟩⟩ rfl rfl hl.1 rfl (lv_room (Nat.le_of_ble_eq_true rfl)) dL_isTicked_282 ⟨Nat.le_of_ble_eq_true rfl, Nat.le_of_ble_eq_true rfl⟩)) (fun r_1523 hw => ?_)
                      refine lv_iload hx hb dL_isTicked_285 (lv_at hl 7 rfl) ?_
                      refine lv_iconst (v := 1) hx hb dL_isTicked_287 (by decide) ?_
                      refine lv_iadd hx hb dL_isTicked_288 ?_
                      refine lv_icmp_gt (tgt := 316) hx hb dL_isTicked_289 (by decide) (fun c_1524 => ?_) (fun c_1524 => ?_)
                      · have hw := hw.1 c_1524
                        exact hw.elim
                      · have hw := hw.2 c_1524
                        refine lv_aload_n hx hb dL_isTicked_292 rfl (lv_at hl 0 rfl) ?_
                        have hPc : va_P (eD E) vwCl (wX E ax gx_L lt_L mo_L ad_L ln_L PL_L pf_L pw_L pk_L lw_L lk_L ik_L) H := hP.part [0, 1, 2, 3, 4, 5, 6] rfl
                        refine vp_callSi (va_Run.run (va_runV (As := []) (rest := []) ⟨hx, hb, hml, hown, hta⟩ (c_X2_queued E l ax gx_L lt_L mo_L ad_L ln_L PL_L pf_L pw_L pk_L lw_L lk_L ik_L _ hw) (pcV (n := 0) hta tw_510 tw_507 tw_1 tw_508 tw_509 rfl rfl hd_X2_queued ⟨Nat.le_of_ble_eq_true rfl, Nat.le_of_ble_eq_true rfl⟩) ⟨fbR, va_recv hKE.1 hP (ci := 3) (q0 := 0) rfl rfl, fun U hU hW => ⟨rfl, preR.mk hPc hKE hU hW⟩⟩ rfl rfl hl.1 rfl (lv_room (Nat.le_of_ble_eq_true rfl)) dL_isTicked_293 ⟨Nat.le_of_ble_eq_true rfl, Nat.le_of_ble_eq_true rfl⟩)) (fun r_1525 hw => ?_)
                        refine lv_iload hx hb dL_isTicked_296 (lv_at hl 4 rfl) ?_
                        refine lv_icmp_eq (tgt := 312) hx hb dL_isTicked_298 (by decide) (fun c_1526 => ?_) (fun c_1526 => ?_)
                        · have hw := hw.1 c_1526
                          refine lv_iconst (v := 1) hx hb dL_isTicked_312 (by decide) ?_
                          refine lv_goto (tgt := 317) hx hb dL_isTicked_313 (by decide) ?_
                          refine lv_istore (lv' := [(17, .int 1), (0, .ref (ax 0)), (1, .ref (bx 0)), (2, .ref (bx 1)), (3, .int x3), (4, .int x4), (5, .int x5), (6, .int x6), (7, .int x7), (8, .int x8), (9, .int x9), (10, .int x10), (11, .int x11), (12, .int x12), (13, .int x13), (14, .int x14), (15, .int x15), (16, .int x16)]) hx hb dL_isTicked_317 hl (by decide) rfl (fun ls hl => ?_)
                          obtain ⟨n_1527, hw⟩ := hw
                          exact loop_319 n_1527 gx_L lt_L mo_L ad_L ln_L PL_L pf_L pw_L pk_L lw_L lk_L ik_L cw_L mw_L x7 x8 x9 x10 x11 x13 x15 x16 hw _ _ hP hD hS ls (lv_sub hl [1, 2, 3, 8, 9, 10, 11, 12, 14, 16, 17, 0] rfl)
                        · have hw := hw.2 c_1526
                          refine lv_aload_n hx hb dL_isTicked_301 rfl (lv_at hl 0 rfl) ?_
                          have hPc : va_P (eD E) vwCl (wX E ax gx_L lt_L mo_L ad_L ln_L PL_L pf_L pw_L pk_L lw_L lk_L ik_L) H := hP.part [0, 1, 2, 3, 4, 5, 6] rfl
                          refine vp_callSi (va_Run.run (va_runV (As := []) (rest := []) ⟨hx, hb, hml, hown, hta⟩ (c_X2_queued E l ax gx_L lt_L mo_L ad_L ln_L PL_L pf_L pw_L pk_L lw_L lk_L ik_L _ hw) (pcV (n := 0) hta tw_510 tw_507 tw_1 tw_508 tw_509 rfl rfl hd_X2_queued ⟨Nat.le_of_ble_eq_true rfl, Nat.le_of_ble_eq_true rfl⟩) ⟨fbR, va_recv hKE.1 hP (ci := 3) (q0 := 0) rfl rfl, fun U hU hW => ⟨rfl, preR.mk hPc hKE hU hW⟩⟩ rfl rfl hl.1 rfl (lv_room (Nat.le_of_ble_eq_true rfl)) dL_isTicked_302 ⟨Nat.le_of_ble_eq_true rfl, Nat.le_of_ble_eq_true rfl⟩)) (fun r_1528 hw => ?_)
                          refine lv_iload hx hb dL_isTicked_305 (lv_at hl 4 rfl) ?_
                          refine lv_iconst (v := 1) hx hb dL_isTicked_307 (by decide) ?_
                          refine lv_isub hx hb dL_isTicked_308 ?_
                          refine lv_icmp_ne (tgt := 316) hx hb dL_isTicked_309 (by decide) (fun c_1529 => ?_) (fun c_1529 => ?_)
                          · have hw := hw.2 c_1529
                            exact hw.elim
                          · have hw := hw.1 c_1529
                            refine lv_iconst (v := 1) hx hb dL_isTicked_312 (by decide) ?_
                            refine lv_goto (tgt := 317) hx hb dL_isTicked_313 (by decide) ?_
                            refine lv_istore (lv' := [(17, .int 1), (0, .ref (ax 0)), (1, .ref (bx 0)), (2, .ref (bx 1)), (3, .int x3), (4, .int x4), (5, .int x5), (6, .int x6), (7, .int x7), (8, .int x8), (9, .int x9), (10, .int x10), (11, .int x11), (12, .int x12), (13, .int x13), (14, .int x14), (15, .int x15), (16, .int x16)]) hx hb dL_isTicked_317 hl (by decide) rfl (fun ls hl => ?_)
                            obtain ⟨n_1530, hw⟩ := hw
                            exact loop_319 n_1530 gx_L lt_L mo_L ad_L ln_L PL_L pf_L pw_L pk_L lw_L lk_L ik_L cw_L mw_L x7 x8 x9 x10 x11 x13 x15 x16 hw _ _ hP hD hS ls (lv_sub hl [1, 2, 3, 8, 9, 10, 11, 12, 14, 16, 17, 0] rfl)
  have loop_179 : ∀ (n : Nat) (gx_L : Nat → Int32) (lt_L : Option Nat) (mo_L : Int32) (ad_L : Nat) (ln_L : Int32) (PL_L : List Nat) (pf_L : Nat → va_E) (pw_L : Nat → Int64) (pk_L : Int32) (lw_L : Nat → Int64) (lk_L : Int32) (ik_L : Nat → Int32) (cw_L : Nat → Int32) (mw_L : Nat → Int32) (x3 : Int32) (x4 : Int32) (x5 : Int32) (x6 : Int32) (x7 : Int32) (x8 : Int32) (x9 : Int32) (x10 : Int32) (x11 : Int32) (x12 : Int32) (x13 : Int32) (x14 : Int32) (x15 : Int32), wp_L_isTicked_L179 E post n gx_L lt_L mo_L ad_L ln_L PL_L pf_L pw_L pk_L lw_L lk_L ik_L cw_L mw_L x3 x4 x5 x6 x7 x8 x9 x10 x11 x12 x13 x14 x15 → ∀ (H : Heap) (locs : List Loc), va_P (eD E) vwCl ([((ax 0), .inr (3, [.ref (ax 1), .ref (ax 2), .ref (ax 4), .ref (ax 6), .int (gx_L 4), .int (gx_L 5), .int (gx_L 6), .int (gx_L 7), va_rf lt_L, .int (gx_L 9), .int (gx_L 10), .int (gx_L 11), .int (gx_L 12), .int (gx_L 13), .int (gx_L 14), .int (gx_L 15), .int (gx_L 16), .int (gx_L 17), .int (gx_L 18)])), ((ax 1), .inr (0, [.int mo_L, .ref ad_L, .int ln_L])), ((ax 2), .inr (2, [.ref (ax 3), .int pk_L])), ((ax 3), .inl (eC E 1, 157, .inr (.inl pw_L))), ((ax 4), .inr (2, [.ref (ax 5), .int lk_L])), ((ax 5), .inl (eC E 1, 157, .inr (.inl lw_L))), ((ax 6), .inl (eC E 0, 3, .inl ik_L)), ((bx 0), .inl (eC E 0, 64, .inl cw_L)), ((bx 1), .inl (eC E 0, 8, .inl mw_L))] ++ va_pl PL_L pf_L) H → va_D A ([((ax 0), .inr (3, [.ref (ax 1), .ref (ax 2), .ref (ax 4), .ref (ax 6), .int (gx_L 4), .int (gx_L 5), .int (gx_L 6), .int (gx_L 7), va_rf lt_L, .int (gx_L 9), .int (gx_L 10), .int (gx_L 11), .int (gx_L 12), .int (gx_L 13), .int (gx_L 14), .int (gx_L 15), .int (gx_L 16), .int (gx_L 17), .int (gx_L 18)])), ((ax 1), .inr (0, [.int mo_L, .ref ad_L, .int ln_L])), ((ax 2), .inr (2, [.ref (ax 3), .int pk_L])), ((ax 3), .inl (eC E 1, 157, .inr (.inl pw_L))), ((ax 4), .inr (2, [.ref (ax 5), .int lk_L])), ((ax 5), .inl (eC E 1, 157, .inr (.inl lw_L))), ((ax 6), .inl (eC E 0, 3, .inl ik_L)), ((bx 0), .inl (eC E 0, 64, .inl cw_L)), ((bx 1), .inl (eC E 0, 8, .inl mw_L))] ++ va_pl PL_L pf_L) → va_S A s.heap H locs → ∀ (ls : Array Slot), lv_has ls 18 [(0, .ref (ax 0)), (1, .ref (bx 0)), (2, .ref (bx 1)), (3, .int x3), (4, .int x4), (5, .int x5), (6, .int x6), (7, .int x7), (8, .int x8), (9, .int x9), (10, .int x10), (11, .int x11), (12, .int x12), (13, .int x13), (14, .int x14), (15, .int x15)] → W p l e (headSpec (Cond.code yL_isTicked cL_isTicked 18 (some .boolean) :: ALLW) ({ frames := 13, cells := 9, slots := 288, locals := 279 } : Room)).room s m ([.ref (ax 0), .ref (bx 0), .ref (bx 1)] : List Value).toArray below meth c H locs 9 288 (MQ below (va_Qi (fun (r : Int32) (u : (Nat → Int32) × Option Nat × Int32 × Nat × Int32 × List Nat × (Nat → va_E) × (Nat → Int64) × Int32 × (Nat → Int64) × Int32 × (Nat → Int32) × (Nat → Int32) × (Nat → Int32)) => post r u.1 u.2.1 u.2.2.1 u.2.2.2.1 u.2.2.2.2.1 u.2.2.2.2.2.1 u.2.2.2.2.2.2.1 u.2.2.2.2.2.2.2.1 u.2.2.2.2.2.2.2.2.1 u.2.2.2.2.2.2.2.2.2.1 u.2.2.2.2.2.2.2.2.2.2.1 u.2.2.2.2.2.2.2.2.2.2.2.1 u.2.2.2.2.2.2.2.2.2.2.2.2.1 u.2.2.2.2.2.2.2.2.2.2.2.2.2) (fun (u : (Nat → Int32) × Option Nat × Int32 × Nat × Int32 × List Nat × (Nat → va_E) × (Nat → Int64) × Int32 × (Nat → Int64) × Int32 × (Nat → Int32) × (Nat → Int32) × (Nat → Int32)) t => va_P (eD E) vwCl (wLP E ax bx u.1 u.2.1 u.2.2.1 u.2.2.2.1 u.2.2.2.2.1 u.2.2.2.2.2.1 u.2.2.2.2.2.2.1 u.2.2.2.2.2.2.2.1 u.2.2.2.2.2.2.2.2.1 u.2.2.2.2.2.2.2.2.2.1 u.2.2.2.2.2.2.2.2.2.2.1 u.2.2.2.2.2.2.2.2.2.2.2.1 u.2.2.2.2.2.2.2.2.2.2.2.2.1 u.2.2.2.2.2.2.2.2.2.2.2.2.2) t.heap ∧ va_D A (wLP E ax bx u.1 u.2.1 u.2.2.1 u.2.2.2.1 u.2.2.2.2.1 u.2.2.2.2.2.1 u.2.2.2.2.2.2.1 u.2.2.2.2.2.2.2.1 u.2.2.2.2.2.2.2.2.1 u.2.2.2.2.2.2.2.2.2.1 u.2.2.2.2.2.2.2.2.2.2.1 u.2.2.2.2.2.2.2.2.2.2.2.1 u.2.2.2.2.2.2.2.2.2.2.2.2.1 u.2.2.2.2.2.2.2.2.2.2.2.2.2)) A) ([.ref (ax 0), .ref (bx 0), .ref (bx 1)] : List Value).toArray s 9 288 A) (F0 m 179 ls []) := by
    intro n
    induction n with
    | zero => intro gx_L lt_L mo_L ad_L ln_L PL_L pf_L pw_L pk_L lw_L lk_L ik_L cw_L mw_L x3 x4 x5 x6 x7 x8 x9 x10 x11 x12 x13 x14 x15 hw; exact hw.elim
    | succ n ih =>
      intro gx_L lt_L mo_L ad_L ln_L PL_L pf_L pw_L pk_L lw_L lk_L ik_L cw_L mw_L x3 x4 x5 x6 x7 x8 x9 x10 x11 x12 x13 x14 x15 hw H locs hP hD hS ls hl
      unfold wp_L_isTicked_L179 at hw
      refine lv_aload_n hx hb dL_isTicked_179 rfl (lv_at hl 0 rfl) ?_
      have hPc : va_P (eD E) vwCl (wX E ax gx_L lt_L mo_L ad_L ln_L PL_L pf_L pw_L pk_L lw_L lk_L ik_L) H := hP.part [0, 1, 2, 3, 4, 5, 6] rfl
      refine vp_callSi (va_Run.run (va_runV (As := []) (rest := []) ⟨hx, hb, hml, hown, hta⟩ (c_X2_queued E l ax gx_L lt_L mo_L ad_L ln_L PL_L pf_L pw_L pk_L lw_L lk_L ik_L _ hw) (pcV (n := 0) hta tw_510 tw_507 tw_1 tw_508 tw_509 rfl rfl hd_X2_queued ⟨Nat.le_of_ble_eq_true rfl, Nat.le_of_ble_eq_true rfl⟩) ⟨fbR, va_recv hKE.1 hP (ci := 3) (q0 := 0) rfl rfl, fun U hU hW => ⟨rfl, preR.mk hPc hKE hU hW⟩⟩ rfl rfl hl.1 rfl (lv_room (Nat.le_of_ble_eq_true rfl)) dL_isTicked_180 ⟨Nat.le_of_ble_eq_true rfl, Nat.le_of_ble_eq_true rfl⟩)) (fun r_1400 hw => ?_)
      refine lv_iload hx hb dL_isTicked_183 (lv_at hl 4 rfl) ?_
      refine lv_icmp_ge (tgt := 192) hx hb dL_isTicked_185 (by decide) (fun c_1401 => ?_) (fun c_1401 => ?_)
      · have hw := hw.1 c_1401
        refine lv_iconst (v := 0) hx hb dL_isTicked_192 (by decide) ?_
        refine lv_istore (lv' := [(16, .int 0), (0, .ref (ax 0)), (1, .ref (bx 0)), (2, .ref (bx 1)), (3, .int x3), (4, .int x4), (5, .int x5), (6, .int x6), (7, .int x7), (8, .int x8), (9, .int x9), (10, .int x10), (11, .int x11), (12, .int x12), (13, .int x13), (14, .int x14), (15, .int x15)]) hx hb dL_isTicked_193 hl (by decide) rfl (fun ls hl => ?_)
        obtain ⟨n_1531, hw⟩ := hw
        exact loop_195 n_1531 gx_L lt_L mo_L ad_L ln_L PL_L pf_L pw_L pk_L lw_L lk_L ik_L cw_L mw_L x3 x4 x5 x6 x7 x8 x9 x10 x11 x12 x13 x14 x15 0 hw _ _ hP hD hS ls (lv_sub hl [1, 2, 3, 4, 5, 6, 7, 8, 9, 10, 11, 12, 13, 14, 15, 16, 0] rfl)
      · have hw := hw.2 c_1401
        refine lv_iconst (v := 1) hx hb dL_isTicked_188 (by decide) ?_
        refine lv_goto (tgt := 193) hx hb dL_isTicked_189 (by decide) ?_
        refine lv_istore (lv' := [(16, .int 1), (0, .ref (ax 0)), (1, .ref (bx 0)), (2, .ref (bx 1)), (3, .int x3), (4, .int x4), (5, .int x5), (6, .int x6), (7, .int x7), (8, .int x8), (9, .int x9), (10, .int x10), (11, .int x11), (12, .int x12), (13, .int x13), (14, .int x14), (15, .int x15)]) hx hb dL_isTicked_193 hl (by decide) rfl (fun ls hl => ?_)
        obtain ⟨n_1532, hw⟩ := hw
        exact loop_195 n_1532 gx_L lt_L mo_L ad_L ln_L PL_L pf_L pw_L pk_L lw_L lk_L ik_L cw_L mw_L x3 x4 x5 x6 x7 x8 x9 x10 x11 x12 x13 x14 x15 1 hw _ _ hP hD hS ls (lv_sub hl [1, 2, 3, 4, 5, 6, 7, 8, 9, 10, 11, 12, 13, 14, 15, 16, 0] rfl)
  have loop_76 : ∀ (n : Nat) (gx_L : Nat → Int32) (lt_L : Option Nat) (mo_L : Int32) (ad_L : Nat) (ln_L : Int32) (PL_L : List Nat) (pf_L : Nat → va_E) (pw_L : Nat → Int64) (pk_L : Int32) (lw_L : Nat → Int64) (lk_L : Int32) (ik_L : Nat → Int32) (cw_L : Nat → Int32) (mw_L : Nat → Int32) (x3 : Int32) (x4 : Int32) (x5 : Int32) (x6 : Int32) (x7 : Int32) (x8 : Int32) (x9 : Int32) (x10 : Int32) (x11 : Int32) (x12 : Int32) (x13 : Int32), wp_L_isTicked_L76 E post n gx_L lt_L mo_L ad_L ln_L PL_L pf_L pw_L pk_L lw_L lk_L ik_L cw_L mw_L x3 x4 x5 x6 x7 x8 x9 x10 x11 x12 x13 → ∀ (H : Heap) (locs : List Loc), va_P (eD E) vwCl ([((ax 0), .inr (3, [.ref (ax 1), .ref (ax 2), .ref (ax 4), .ref (ax 6), .int (gx_L 4), .int (gx_L 5), .int (gx_L 6), .int (gx_L 7), va_rf lt_L, .int (gx_L 9), .int (gx_L 10), .int (gx_L 11), .int (gx_L 12), .int (gx_L 13), .int (gx_L 14), .int (gx_L 15), .int (gx_L 16), .int (gx_L 17), .int (gx_L 18)])), ((ax 1), .inr (0, [.int mo_L, .ref ad_L, .int ln_L])), ((ax 2), .inr (2, [.ref (ax 3), .int pk_L])), ((ax 3), .inl (eC E 1, 157, .inr (.inl pw_L))), ((ax 4), .inr (2, [.ref (ax 5), .int lk_L])), ((ax 5), .inl (eC E 1, 157, .inr (.inl lw_L))), ((ax 6), .inl (eC E 0, 3, .inl ik_L)), ((bx 0), .inl (eC E 0, 64, .inl cw_L)), ((bx 1), .inl (eC E 0, 8, .inl mw_L))] ++ va_pl PL_L pf_L) H → va_D A ([((ax 0), .inr (3, [.ref (ax 1), .ref (ax 2), .ref (ax 4), .ref (ax 6), .int (gx_L 4), .int (gx_L 5), .int (gx_L 6), .int (gx_L 7), va_rf lt_L, .int (gx_L 9), .int (gx_L 10), .int (gx_L 11), .int (gx_L 12), .int (gx_L 13), .int (gx_L 14), .int (gx_L 15), .int (gx_L 16), .int (gx_L 17), .int (gx_L 18)])), ((ax 1), .inr (0, [.int mo_L, .ref ad_L, .int ln_L])), ((ax 2), .inr (2, [.ref (ax 3), .int pk_L])), ((ax 3), .inl (eC E 1, 157, .inr (.inl pw_L))), ((ax 4), .inr (2, [.ref (ax 5), .int lk_L])), ((ax 5), .inl (eC E 1, 157, .inr (.inl lw_L))), ((ax 6), .inl (eC E 0, 3, .inl ik_L)), ((bx 0), .inl (eC E 0, 64, .inl cw_L)), ((bx 1), .inl (eC E 0, 8, .inl mw_L))] ++ va_pl PL_L pf_L) → va_S A s.heap H locs → ∀ (ls : Array Slot), lv_has ls 18 [(0, .ref (ax 0)), (1, .ref (bx 0)), (2, .ref (bx 1)), (3, .int x3), (4, .int x4), (5, .int x5), (6, .int x6), (7, .int x7), (8, .int x8), (9, .int x9), (10, .int x10), (11, .int x11), (12, .int x12), (13, .int x13)] → W p l e (headSpec (Cond.code yL_isTicked cL_isTicked 18 (some .boolean) :: ALLW) ({ frames := 13, cells := 9, slots := 288, locals := 279 } : Room)).room s m ([.ref (ax 0), .ref (bx 0), .ref (bx 1)] : List Value).toArray below meth c H locs 0 0 (MQ below (va_Qi (fun (r : Int32) (u : (Nat → Int32) × Option Nat × Int32 × Nat × Int32 × List Nat × (Nat → va_E) × (Nat → Int64) × Int32 × (Nat → Int64) × Int32 × (Nat → Int32) × (Nat → Int32) × (Nat → Int32)) => post r u.1 u.2.1 u.2.2.1 u.2.2.2.1 u.2.2.2.2.1 u.2.2.2.2.2.1 u.2.2.2.2.2.2.1 u.2.2.2.2.2.2.2.1 u.2.2.2.2.2.2.2.2.1 u.2.2.2.2.2.2.2.2.2.1 u.2.2.2.2.2.2.2.2.2.2.1 u.2.2.2.2.2.2.2.2.2.2.2.1 u.2.2.2.2.2.2.2.2.2.2.2.2.1 u.2.2.2.2.2.2.2.2.2.2.2.2.2) (fun (u : (Nat → Int32) × Option Nat × Int32 × Nat × Int32 × List Nat × (Nat → va_E) × (Nat → Int64) × Int32 × (Nat → Int64) × Int32 × (Nat → Int32) × (Nat → Int32) × (Nat → Int32)) t => va_P (eD E) vwCl (wLP E ax bx u.1 u.2.1 u.2.2.1 u.2.2.2.1 u.2.2.2.2.1 u.2.2.2.2.2.1 u.2.2.2.2.2.2.1 u.2.2.2.2.2.2.2.1 u.2.2.2.2.2.2.2.2.1 u.2.2.2.2.2.2.2.2.2.1 u.2.2.2.2.2.2.2.2.2.2.1 u.2.2.2.2.2.2.2.2.2.2.2.1 u.2.2.2.2.2.2.2.2.2.2.2.2.1 u.2.2.2.2.2.2.2.2.2.2.2.2.2) t.heap ∧ va_D A (wLP E ax bx u.1 u.2.1 u.2.2.1 u.2.2.2.1 u.2.2.2.2.1 u.2.2.2.2.2.1 u.2.2.2.2.2.2.1 u.2.2.2.2.2.2.2.1 u.2.2.2.2.2.2.2.2.1 u.2.2.2.2.2.2.2.2.2.1 u.2.2.2.2.2.2.2.2.2.2.1 u.2.2.2.2.2.2.2.2.2.2.2.1 u.2.2.2.2.2.2.2.2.2.2.2.2.1 u.2.2.2.2.2.2.2.2.2.2.2.2.2)) A) ([.ref (ax 0), .ref (bx 0), .ref (bx 1)] : List Value).toArray s 9 288 A) (F0 m 76 ls []) := by
    intro n
    induction n with
    | zero => intro gx_L lt_L mo_L ad_L ln_L PL_L pf_L pw_L pk_L lw_L lk_L ik_L cw_L mw_L x3 x4 x5 x6 x7 x8 x9 x10 x11 x12 x13 hw; exact hw.elim
    | succ n ih =>
      intro gx_L lt_L mo_L ad_L ln_L PL_L pf_L pw_L pk_L lw_L lk_L ik_L cw_L mw_L x3 x4 x5 x6 x7 x8 x9 x10 x11 x12 x13 hw H locs hP hD hS ls hl
      unfold wp_L_isTicked_L76 at hw
      refine lv_aload_n hx hb dL_isTicked_76 rfl (lv_at hl 0 rfl) ?_
      refine lv_iconst (v := 1) hx hb dL_isTicked_77 (by decide) ?_
      refine lv_iconst (v := 1) hx hb dL_isTicked_78 (by decide) ?_
      refine lv_iconst (v := 0) hx hb dL_isTicked_79 (by decide) ?_
      have hPc : va_P (eD E) vwCl (wX E ax gx_L lt_L mo_L ad_L ln_L PL_L pf_L pw_L pk_L lw_L lk_L ik_L) H := hP.part [0, 1, 2, 3, 4, 5, 6] rfl
      have hDc : va_D A (wX E ax gx_L lt_L mo_L ad_L ln_L PL_L pf_L pw_L pk_L lw_L lk_L ik_L) := hD.part [0, 1, 2, 3, 4, 5, 6] (by decide) rfl
      have hFc : ∀ q, va_A (wX E ax gx_L lt_L mo_L ad_L ln_L PL_L pf_L pw_L pk_L lw_L lk_L ik_L) H.size q → A q := va_freeP hD hS hA [0, 1, 2, 3, 4, 5, 6] rfl
      refine va_calli (vx_runSW (As := [.ref (ax 0), .int 1, .int 1, .int 0]) (rest := []) ⟨hx, hb, hml, hown, hta⟩ (c_L_act E l ax gx_L lt_L mo_L ad_L ln_L PL_L pf_L pw_L pk_L lw_L lk_L ik_L 1 1 0 H.size _ hw hst) (pcSW (n := 4) hta tw_231 tw_229 tw_0 tw_230 rfl rfl hd_L_act ⟨Nat.le_of_ble_eq_true rfl, Nat.le_of_ble_eq_true rfl⟩) ⟨fbM, fun U hU hW => ⟨rfl, preM.mk hPc hKE hDc hZ hS hFc hU hW⟩⟩ rfl rfl hl.1 rfl (lv_room (Nat.le_of_ble_eq_true rfl)) dL_isTicked_80 ⟨Nat.le_of_ble_eq_true rfl, Nat.le_of_ble_eq_true rfl⟩) hS (fun q _ h => hFc q h) hFc (fun r_1373 u t H locs ht hvm hw hB hz1 hk1 hS => ?_)
      obtain ⟨gx_1374, lt_1375, mo_1376, ad_1377, ln_1378, PL_1379, pf_1380, pw_1381, pk_1382, lw_1383, lk_1384, ik_1385⟩ := u
      obtain ⟨hP1, hD1⟩ := hB
      rw [ht] at hP1
      try dsimp only at hw hP1 hD1
      obtain ⟨hP, hD⟩ := va_joinP (wr := [((bx 0), .inl (eC E 0, 64, .inl cw_L)), ((bx 1), .inl (eC E 0, 8, .inl mw_L))]) (rx := [((ax 0), .inr (3, [.ref (ax 1), .ref (ax 2), .ref (ax 4), .ref (ax 6), .int (gx_1374 4), .int (gx_1374 5), .int (gx_1374 6), .int (gx_1374 7), va_rf lt_1375, .int (gx_1374 9), .int (gx_1374 10), .int (gx_1374 11), .int (gx_1374 12), .int (gx_1374 13), .int (gx_1374 14), .int (gx_1374 15), .int (gx_1374 16), .int (gx_1374 17), .int (gx_1374 18)])), ((ax 1), .inr (0, [.int mo_1376, .ref ad_1377, .int ln_1378])), ((ax 2), .inr (2, [.ref (ax 3), .int pk_1382])), ((ax 3), .inl (eC E 1, 157, .inr (.inl pw_1381))), ((ax 4), .inr (2, [.ref (ax 5), .int lk_1384])), ((ax 5), .inl (eC E 1, 157, .inr (.inl lw_1383))), ((ax 6), .inl (eC E 0, 3, .inl ik_1385))]) (pl1 := va_pl PL_1379 pf_1380) hP hD [0, 1, 2, 3, 4, 5, 6] [7, 8] rfl rfl (by decide) (by decide) hk1 hFc hP1 hD1
      have hP : va_P (eD E) vwCl ([((ax 0), .inr (3, [.ref (ax 1), .ref (ax 2), .ref (ax 4), .ref (ax 6), .int (gx_1374 4), .int (gx_1374 5), .int (gx_1374 6), .int (gx_1374 7), va_rf lt_1375, .int (gx_1374 9), .int (gx_1374 10), .int (gx_1374 11), .int (gx_1374 12), .int (gx_1374 13), .int (gx_1374 14), .int (gx_1374 15), .int (gx_1374 16), .int (gx_1374 17), .int (gx_1374 18)])), ((ax 1), .inr (0, [.int mo_1376, .ref ad_1377, .int ln_1378])), ((ax 2), .inr (2, [.ref (ax 3), .int pk_1382])), ((ax 3), .inl (eC E 1, 157, .inr (.inl pw_1381))), ((ax 4), .inr (2, [.ref (ax 5), .int lk_1384])), ((ax 5), .inl (eC E 1, 157, .inr (.inl lw_1383))), ((ax 6), .inl (eC E 0, 3, .inl ik_1385)), ((bx 0), .inl (eC E 0, 64, .inl cw_L)), ((bx 1), .inl (eC E 0, 8, .inl mw_L))] ++ va_pl PL_1379 pf_1380) H := hP.part [2, 3, 4, 5, 6, 7, 8, 0, 1] rfl
      have hD : va_D A ([((ax 0), .inr (3, [.ref (ax 1), .ref (ax 2), .ref (ax 4), .ref (ax 6), .int (gx_1374 4), .int (gx_1374 5), .int (gx_1374 6), .int (gx_1374 7), va_rf lt_1375, .int (gx_1374 9), .int (gx_1374 10), .int (gx_1374 11), .int (gx_1374 12), .int (gx_1374 13), .int (gx_1374 14), .int (gx_1374 15), .int (gx_1374 16), .int (gx_1374 17), .int (gx_1374 18)])), ((ax 1), .inr (0, [.int mo_1376, .ref ad_1377, .int ln_1378])), ((ax 2), .inr (2, [.ref (ax 3), .int pk_1382])), ((ax 3), .inl (eC E 1, 157, .inr (.inl pw_1381))), ((ax 4), .inr (2, [.ref (ax 5), .int lk_1384])), ((ax 5), .inl (eC E 1, 157, .inr (.inl lw_1383))), ((ax 6), .inl (eC E 0, 3, .inl ik_1385)), ((bx 0), .inl (eC E 0, 64, .inl cw_L)), ((bx 1), .inl (eC E 0, 8, .inl mw_L))] ++ va_pl PL_1379 pf_1380) := hD.part [2, 3, 4, 5, 6, 7, 8, 0, 1] (by decide) rfl
      refine lv_istore (lv' := [(14, .int r_1373), (0, .ref (ax 0)), (1, .ref (bx 0)), (2, .ref (bx 1)), (3, .int x3), (4, .int x4), (5, .int x5), (6, .int x6), (7, .int x7), (8, .int x8), (9, .int x9), (10, .int x10), (11, .int x11), (12, .int x12), (13, .int x13)]) hx hb dL_isTicked_83 hl (by decide) rfl (fun ls hl => ?_)
      refine lv_iload hx hb dL_isTicked_85 (lv_at hl 14 rfl) ?_
      refine lv_if_eq (tgt := 95) hx hb dL_isTicked_87 (by decide) (fun c_1386 => ?_) (fun c_1386 => ?_)
      · have hw := hw.1 c_1386
        refine lv_iload hx hb dL_isTicked_95 (lv_at hl 0 rfl) ?_
        refine lv_if_ne (tgt := 148) hx hb dL_isTicked_97 (by decide) (fun c_1387 => ?_) (fun c_1387 => ?_)
        · have hw := hw.2 c_1387
          exact hw.elim
        · have hw := hw.1 c_1387
          refine lv_aload_n hx hb dL_isTicked_100 rfl (lv_at hl 1 rfl) ?_
          have hPc : va_P (eD E) vwCl (wX E ax gx_1374 lt_1375 mo_1376 ad_1377 ln_1378 PL_1379 pf_1380 pw_1381 pk_1382 lw_1383 lk_1384 ik_1385) H := hP.part [0, 1, 2, 3, 4, 5, 6] rfl
          refine vp_callSi (va_Run.run (va_runV (As := []) (rest := []) ⟨hx, hb, hml, hown, hta⟩ (c_X2_timeLeft E l ax gx_1374 lt_1375 mo_1376 ad_1377 ln_1378 PL_1379 pf_1380 pw_1381 pk_1382 lw_1383 lk_1384 ik_1385 _ hw) (pcV (n := 0) hta tw_518 tw_515 tw_1 tw_516 tw_517 rfl rfl hd_X2_timeLeft ⟨Nat.le_of_ble_eq_true rfl, Nat.le_of_ble_eq_true rfl⟩) ⟨fbR, va_recv hKE.1 hP (ci := 3) (q0 := 0) rfl rfl, fun U hU hW => ⟨rfl, preR.mk hPc hKE hU hW⟩⟩ rfl rfl hl.1 rfl (lv_room (Nat.le_of_ble_eq_true rfl)) dL_isTicked_101 ⟨Nat.le_of_ble_eq_true rfl, Nat.le_of_ble_eq_true rfl⟩)) (fun r_1388 hw => ?_)
          refine lv_iload_n hx hb dL_isTicked_104 rfl (lv_at hl 4 rfl) ?_
          refine lv_icmp_ne (tgt := 148) hx hb dL_isTicked_105 (by decide) (fun c_1389 => ?_) (fun c_1389 => ?_)
          · have hw := hw.2 c_1389
            exact hw.elim
          · have hw := hw.1 c_1389
            refine lv_aload_n hx hb dL_isTicked_108 rfl (lv_at hl 1 rfl) ?_
            have hPc : va_P (eD E) vwCl (wX E ax gx_1374 lt_1375 mo_1376 ad_1377 ln_1378 PL_1379 pf_1380 pw_1381 pk_1382 lw_1383 lk_1384 ik_1385) H := hP.part [0, 1, 2, 3, 4, 5, 6] rfl
            refine vp_callSi (va_Run.run (va_runV (As := []) (rest := []) ⟨hx, hb, hml, hown, hta⟩ (c_X2_at E l ax gx_1374 lt_1375 mo_1376 ad_1377 ln_1378 PL_1379 pf_1380 pw_1381 pk_1382 lw_1383 lk_1384 ik_1385 _ hw) (pcV (n := 0) hta tw_522 tw_519 tw_1 tw_520 tw_521 rfl rfl hd_X2_at ⟨Nat.le_of_ble_eq_true rfl, Nat.le_of_ble_eq_true rfl⟩) ⟨fbR, va_recv hKE.1 hP (ci := 3) (q0 := 0) rfl rfl, fun U hU hW => ⟨rfl, preR.mk hPc hKE hU hW⟩⟩ rfl rfl hl.1 rfl (lv_room (Nat.le_of_ble_eq_true rfl)) dL_isTicked_109 ⟨Nat.le_of_ble_eq_true rfl, Nat.le_of_ble_eq_true rfl⟩)) (fun r_1390 hw => ?_)
            refine lv_iload hx hb dL_isTicked_112 (lv_at hl 11 rfl) ?_
            refine lv_icmp_ne (tgt := 148) hx hb dL_isTicked_114 (by decide) (fun c_1391 => ?_) (fun c_1391 => ?_)
            · have hw := hw.2 c_1391
              exact hw.elim
            · have hw := hw.1 c_1391
              refine lv_aload_n hx hb dL_isTicked_117 rfl (lv_at hl 1 rfl) ?_
              have hPc : va_P (eD E) vwCl (wX E ax gx_1374 lt_1375 mo_1376 ad_1377 ln_1378 PL_1379 pf_1380 pw_1381 pk_1382 lw_1383 lk_1384 ik_1385) H := hP.part [0, 1, 2, 3, 4, 5, 6] rfl
              refine vp_callSi (va_Run.run (va_runV (As := []) (rest := []) ⟨hx, hb, hml, hown, hta⟩ (c_X2_marks E l ax gx_1374 lt_1375 mo_1376 ad_1377 ln_1378 PL_1379 pf_1380 pw_1381 pk_1382 lw_1383 lk_1384 ik_1385 _ hw) (pcV (n := 0) hta tw_219 tw_216 tw_1 tw_217 tw_218 rfl rfl hd_X2_marks ⟨Nat.le_of_ble_eq_true rfl, Nat.le_of_ble_eq_true rfl⟩) ⟨fbR, va_recv hKE.1 hP (ci := 3) (q0 := 0) rfl rfl, fun U hU hW => ⟨rfl, preR.mk hPc hKE hU hW⟩⟩ rfl rfl hl.1 rfl (lv_room (Nat.le_of_ble_eq_true rfl)) dL_isTicked_118 ⟨Nat.le_of_ble_eq_true rfl, Nat.le_of_ble_eq_true rfl⟩)) (fun r_1392 hw => ?_)
              refine lv_iload hx hb dL_isTicked_121 (lv_at hl 8 rfl) ?_
              refine lv_icmp_ne (tgt := 148) hx hb dL_isTicked_123 (by decide) (fun c_1393 => ?_) (fun c_1393 => ?_)
              · have hw := hw.2 c_1393
                exact hw.elim
              · have hw := hw.1 c_1393
                refine lv_aload_n hx hb dL_isTicked_126 rfl (lv_at hl 1 rfl) ?_
                have hPc : va_P (eD E) vwCl (wX E ax gx_1374 lt_1375 mo_1376 ad_1377 ln_1378 PL_1379 pf_1380 pw_1381 pk_1382 lw_1383 lk_1384 ik_1385) H := hP.part [0, 1, 2, 3, 4, 5, 6] rfl
                refine vp_callSi (va_Run.run (va_runV (As := []) (rest := []) ⟨hx, hb, hml, hown, hta⟩ (c_X2_stepsUp E l ax gx_1374 lt_1375 mo_1376 ad_1377 ln_1378 PL_1379 pf_1380 pw_1381 pk_1382 lw_1383 lk_1384 ik_1385 _ hw) (pcV (n := 0) hta tw_560 tw_557 tw_1 tw_558 tw_559 rfl rfl hd_X2_stepsUp ⟨Nat.le_of_ble_eq_true rfl, Nat.le_of_ble_eq_true rfl⟩) ⟨fbR, va_recv hKE.1 hP (ci := 3) (q0 := 0) rfl rfl, fun U hU hW => ⟨rfl, preR.mk hPc hKE hU hW⟩⟩ rfl rfl hl.1 rfl (lv_room (Nat.le_of_ble_eq_true rfl)) dL_isTicked_127 ⟨Nat.le_of_ble_eq_true rfl, Nat.le_of_ble_eq_true rfl⟩)) (fun r_1394 hw => ?_)
                refine lv_iload hx hb dL_isTicked_130 (lv_at hl 6 rfl) ?_
                refine lv_icmp_ne (tgt := 148) hx hb dL_isTicked_132 (by decide) (fun c_1395 => ?_) (fun c_1395 => ?_)
                · have hw := hw.2 c_1395
                  exact hw.elim
                · have hw := hw.1 c_1395
                  refine lv_aload_n hx hb dL_isTicked_135 rfl (lv_at hl 1 rfl) ?_
                  have hPc : va_P (eD E) vwCl (wX E ax gx_1374 lt_1375 mo_1376 ad_1377 ln_1378 PL_1379 pf_1380 pw_1381 pk_1382 lw_1383 lk_1384 ik_1385) H := hP.part [0, 1, 2, 3, 4, 5, 6] rfl
                  refine vp_callSi (va_Run.run (va_runV (As := []) (rest := []) ⟨hx, hb, hml, hown, hta⟩ (c_X2_stepsDown E l ax gx_1374 lt_1375 mo_1376 ad_1377 ln_1378 PL_1379 pf_1380 pw_1381 pk_1382 lw_1383 lk_1384 ik_1385 _ hw) (pcV (n := 0) hta tw_565 tw_562 tw_1 tw_563 tw_564 rfl rfl hd_X2_stepsDown ⟨Nat.le_of_ble_eq_true rfl, Nat.le_of_ble_eq_true rfl⟩) ⟨fbR, va_recv hKE.1 hP (ci := 3) (q0 := 0) rfl rfl, fun U hU hW => ⟨rfl, preR.mk hPc hKE hU hW⟩⟩ rfl rfl hl.1 rfl (lv_room (Nat.le_of_ble_eq_true rfl)) dL_isTicked_136 ⟨Nat.le_of_ble_eq_true rfl, Nat.le_of_ble_eq_true rfl⟩)) (fun r_1396 hw => ?_)
                  refine lv_iload hx hb dL_isTicked_139 (lv_at hl 7 rfl) ?_
                  refine lv_icmp_ne (tgt := 148) hx hb dL_isTicked_141 (by decide) (fun c_1397 => ?_) (fun c_1397 => ?_)
                  · have hw := hw.2 c_1397
                    exact hw.elim
                  · have hw := hw.1 c_1397
                    refine lv_iconst (v := 1) hx hb dL_isTicked_144 (by decide) ?_
                    refine lv_goto (tgt := 149) hx hb dL_isTicked_145 (by decide) ?_
                    have hP9 : va_P (eD E) vwCl (wLP E ax bx gx_1374 lt_1375 mo_1376 ad_1377 ln_1378 PL_1379 pf_1380 pw_1381 pk_1382 lw_1383 lk_1384 ik_1385 cw_L mw_L) H := hP
                    have hD9 : va_D A (wLP E ax bx gx_1374 lt_1375 mo_1376 ad_1377 ln_1378 PL_1379 pf_1380 pw_1381 pk_1382 lw_1383 lk_1384 ik_1385 cw_L mw_L) := hD
                    exact W.zret (v := 1) hx hb hr rfl (fun t ht hW => ⟨⟨1, (gx_1374, lt_1375, mo_1376, ad_1377, ln_1378, PL_1379, pf_1380, pw_1381, pk_1382, lw_1383, lk_1384, ik_1385, cw_L, mw_L), rfl, hw, ⟨by rw [ht]; exact hP9, hD9⟩⟩, hS.F ht⟩) hS.2.2 dL_isTicked_149
      · have hw := hw.2 c_1386
        refine lv_iload hx hb dL_isTicked_90 (lv_at hl 13 rfl) ?_
        refine lv_if_eq (tgt := 150) hx hb dL_isTicked_92 (by decide) (fun c_1398 => ?_) (fun c_1398 => ?_)
        · have hw := hw.1 c_1398
          refine lv_iload hx hb dL_isTicked_150 (lv_at hl 14 rfl) ?_
          refine lv_iconst (v := 3) hx hb dL_isTicked_152 (by decide) ?_
          refine lv_icmp_eq (tgt := 176) hx hb dL_isTicked_153 (by decide) (fun c_1399 => ?_) (fun c_1399 => ?_)
          · have hw := hw.1 c_1399
            refine lv_iconst (v := 0) hx hb dL_isTicked_176 (by decide) ?_
            refine lv_istore (lv' := [(15, .int 0), (14, .int r_1373), (0, .ref (ax 0)), (1, .ref (bx 0)), (2, .ref (bx 1)), (3, .int x3), (4, .int x4), (5, .int x5), (6, .int x6), (7, .int x7), (8, .int x8), (9, .int x9), (10, .int x10), (11, .int x11), (12, .int x12), (13, .int x13)]) hx hb dL_isTicked_177 hl (by decide) rfl (fun ls hl => ?_)
            obtain ⟨n_1533, hw⟩ := hw
            exact loop_179 n_1533 gx_1374 lt_1375 mo_1376 ad_1377 ln_1378 PL_1379 pf_1380 pw_1381 pk_1382 lw_1383 lk_1384 ik_1385 cw_L mw_L x3 x4 x5 x6 x7 x8 x9 x10 x11 x12 x13 r_1373 0 hw _ _ hP hD hS ls (lv_sub hl [2, 3, 4, 5, 6, 7, 8, 9, 10, 11, 12, 13, 14, 15, 1, 0] rfl)
          · have hw := hw.2 c_1399
            refine lv_iload hx hb dL_isTicked_156 (lv_at hl 12 rfl) ?_
            refine lv_iload hx hb dL_isTicked_158 (lv_at hl 14 rfl) ?_
            refine lv_iconst (v := 2) hx hb dL_isTicked_160 (by decide) ?_
            refine lv_icmp_ne (tgt := 168) hx hb dL_isTicked_161 (by decide) (fun c_1534 => ?_) (fun c_1534 => ?_)
            · have hw := hw.2 c_1534
              refine lv_iconst (v := 0) hx hb dL_isTicked_168 (by decide) ?_
              refine lv_icmp_ne (tgt := 176) hx hb dL_isTicked_169 (by decide) (fun c_1535 => ?_) (fun c_1535 => ?_)
              · have hw := hw.2 c_1535
                refine lv_iconst (v := 0) hx hb dL_isTicked_176 (by decide) ?_
                refine lv_istore (lv' := [(15, .int 0), (14, .int r_1373), (0, .ref (ax 0)), (1, .ref (bx 0)), (2, .ref (bx 1)), (3, .int x3), (4, .int x4), (5, .int x5), (6, .int x6), (7, .int x7), (8, .int x8), (9, .int x9), (10, .int x10), (11, .int x11), (12, .int x12), (13, .int x13)]) hx hb dL_isTicked_177 hl (by decide) rfl (fun ls hl => ?_)
                obtain ⟨n_1536, hw⟩ := hw
                exact loop_179 n_1536 gx_1374 lt_1375 mo_1376 ad_1377 ln_1378 PL_1379 pf_1380 pw_1381 pk_1382 lw_1383 lk_1384 ik_1385 cw_L mw_L x3 x4 x5 x6 x7 x8 x9 x10 x11 x12 x13 r_1373 0 hw _ _ hP hD hS ls (lv_sub hl [2, 3, 4, 5, 6, 7, 8, 9, 10, 11, 12, 13, 14, 15, 1, 0] rfl)
              · have hw := hw.1 c_1535
                refine lv_iconst (v := 1) hx hb dL_isTicked_172 (by decide) ?_
                refine lv_goto (tgt := 177) hx hb dL_isTicked_173 (by decide) ?_
                refine lv_istore (lv' := [(15, .int 1), (14, .int r_1373), (0, .ref (ax 0)), (1, .ref (bx 0)), (2, .ref (bx 1)), (3, .int x3), (4, .int x4), (5, .int x5), (6, .int x6), (7, .int x7), (8, .int x8), (9, .int x9), (10, .int x10), (11, .int x11), (12, .int x12), (13, .int x13)]) hx hb dL_isTicked_177 hl (by decide) rfl (fun ls hl => ?_)
                obtain ⟨n_1537, hw⟩ := hw
                exact loop_179 n_1537 gx_1374 lt_1375 mo_1376 ad_1377 ln_1378 PL_1379 pf_1380 pw_1381 pk_1382 lw_1383 lk_1384 ik_1385 cw_L mw_L x3 x4 x5 x6 x7 x8 x9 x10 x11 x12 x13 r_1373 1 hw _ _ hP hD hS ls (lv_sub hl [2, 3, 4, 5, 6, 7, 8, 9, 10, 11, 12, 13, 14, 15, 1, 0] rfl)
            · have hw := hw.1 c_1534
              refine lv_iconst (v := 1) hx hb dL_isTicked_164 (by decide) ?_
              refine lv_goto (tgt := 169) hx hb dL_isTicked_165 (by decide) ?_
              refine lv_icmp_ne (tgt := 176) hx hb dL_isTicked_169 (by decide) (fun c_1538 => ?_) (fun c_1538 => ?_)
              · have hw := hw.2 c_1538
                refine lv_iconst (v := 0) hx hb dL_isTicked_176 (by decide) ?_
                refine lv_istore (lv' := [(15, .int 0), (14, .int r_1373), (0, .ref (ax 0)), (1, .ref (bx 0)), (2, .ref (bx 1)), (3, .int x3), (4, .int x4), (5, .int x5), (6, .int x6), (7, .int x7), (8, .int x8), (9, .int x9), (10, .int x10), (11, .int x11), (12, .int x12), (13, .int x13)]) hx hb dL_isTicked_177 hl (by decide) rfl (fun ls hl => ?_)
                obtain ⟨n_1539, hw⟩ := hw
                exact loop_179 n_1539 gx_1374 lt_1375 mo_1376 ad_1377 ln_1378 PL_1379 pf_1380 pw_1381 pk_1382 lw_1383 lk_1384 ik_1385 cw_L mw_L x3 x4 x5 x6 x7 x8 x9 x10 x11 x12 x13 r_1373 0 hw _ _ hP hD hS ls (lv_sub hl [2, 3, 4, 5, 6, 7, 8, 9, 10, 11, 12, 13, 14, 15, 1, 0] rfl)
              · have hw := hw.1 c_1538
                refine lv_iconst (v := 1) hx hb dL_isTicked_172 (by decide) ?_
                refine lv_goto (tgt := 177) hx hb dL_isTicked_173 (by decide) ?_
                refine lv_istore (lv' := [(15, .int 1), (14, .int r_1373), (0, .ref (ax 0)), (1, .ref (bx 0)), (2, .ref (bx 1)), (3, .int x3), (4, .int x4), (5, .int x5), (6, .int x6), (7, .int x7), (8, .int x8), (9, .int x9), (10, .int x10), (11, .int x11), (12, .int x12), (13, .int x13)]) hx hb dL_isTicked_177 hl (by decide) rfl (fun ls hl => ?_)
                obtain ⟨n_1540, hw⟩ := hw
                exact loop_179 n_1540 gx_1374 lt_1375 mo_1376 ad_1377 ln_1378 PL_1379 pf_1380 pw_1381 pk_1382 lw_1383 lk_1384 ik_1385 cw_L mw_L x3 x4 x5 x6 x7 x8 x9 x10 x11 x12 x13 r_1373 1 hw _ _ hP hD hS ls (lv_sub hl [2, 3, 4, 5, 6, 7, 8, 9, 10, 11, 12, 13, 14, 15, 1, 0] rfl)
        · have hw := hw.2 c_1398
          refine lv_iload hx hb dL_isTicked_95 (lv_at hl 0 rfl) ?_
          refine lv_if_ne (tgt := 148) hx hb dL_isTicked_97 (by decide) (fun c_1541 => ?_) (fun c_1541 => ?_)
          · have hw := hw.2 c_1541
            exact hw.elim
          · have hw := hw.1 c_1541
            refine lv_aload_n hx hb dL_isTicked_100 rfl (lv_at hl 1 rfl) ?_
            have hPc : va_P (eD E) vwCl (wX E ax gx_1374 lt_1375 mo_1376 ad_1377 ln_1378 PL_1379 pf_1380 pw_1381 pk_1382 lw_1383 lk_1384 ik_1385) H := hP.part [0, 1, 2, 3, 4, 5, 6] rfl
            refine vp_callSi (va_Run.run (va_runV (As := []) (rest := []) ⟨hx, hb, hml, hown, hta⟩ (c_X2_timeLeft E l ax gx_1374 lt_1375 mo_1376 ad_1377 ln_1378 PL_1379 pf_1380 pw_1381 pk_1382 lw_1383 lk_1384 ik_1385 _ hw) (pcV (n := 0) hta tw_518 tw_515 tw_1 tw_516 tw_517 rfl rfl hd_X2_timeLeft ⟨Nat.le_of_ble_eq_true rfl, Nat.le_of_ble_eq_true rfl⟩) ⟨fbR, va_recv hKE.1 hP (ci := 3) (q0 := 0) rfl rfl, fun U hU hW => ⟨rfl, preR.mk hPc hKE hU hW⟩⟩ rfl rfl hl.1 rfl (lv_room (Nat.le_of_ble_eq_true rfl)) dL_isTicked_101 ⟨Nat.le_of_ble_eq_true rfl, Nat.le_of_ble_eq_true rfl⟩)) (fun r_1542 hw => ?_)
            refine lv_iload_n hx hb dL_isTicked_104 rfl (lv_at hl 4 rfl) ?_
            refine lv_icmp_ne (tgt := 148) hx hb dL_isTicked_105 (by decide) (fun c_1543 => ?_) (fun c_1543 => ?_)
            · have hw := hw.2 c_1543
              exact hw.elim
            · have hw := hw.1 c_1543
              refine lv_aload_n hx hb dL_isTicked_108 rfl (lv_at hl 1 rfl) ?_
              have hPc : va_P (eD E) vwCl (wX E ax gx_1374 lt_1375 mo_1376 ad_1377 ln_1378 PL_1379 pf_1380 pw_1381 pk_1382 lw_1383 lk_1384 ik_1385) H := hP.part [0, 1, 2, 3, 4, 5, 6] rfl
              refine vp_callSi (va_Run.run (va_runV (As := []) (rest := []) ⟨hx, hb, hml, hown, hta⟩ (c_X2_at E l ax gx_1374 lt_1375 mo_1376 ad_1377 ln_1378 PL_1379 pf_1380 pw_1381 pk_1382 lw_1383 lk_1384 ik_1385 _ hw) (pcV (n := 0) hta tw_522 tw_519 tw_1 tw_520 tw_521 rfl rfl hd_X2_at ⟨Nat.le_of_ble_eq_true rfl, Nat.le_of_ble_eq_true rfl⟩) ⟨fbR, va_recv hKE.1 hP (ci := 3) (q0 := 0) rfl rfl, fun U hU hW => ⟨rfl, preR.mk hPc hKE hU hW⟩⟩ rfl rfl hl.1 rfl (lv_room (Nat.le_of_ble_eq_true rfl)) dL_isTicked_109 ⟨Nat.le_of_ble_eq_true rfl, Nat.le_of_ble_eq_true rfl⟩)) (fun r_1544 hw => ?_)
              refine lv_iload hx hb dL_isTicked_112 (lv_at hl 11 rfl) ?_
              refine lv_icmp_ne (tgt := 148) hx hb dL_isTicked_114 (by decide) (fun c_1545 => ?_) (fun c_1545 => ?_)
              · have hw := hw.2 c_1545
                exact hw.elim
              · have hw := hw.1 c_1545
                refine lv_aload_n hx hb dL_isTicked_117 rfl (lv_at hl 1 rfl) ?_
                have hPc : va_P (eD E) vwCl (wX E ax gx_1374 lt_1375 mo_1376 ad_1377 ln_1378 PL_1379 pf_1380 pw_1381 pk_1382 lw_1383 lk_1384 ik_1385) H := hP.part [0, 1, 2, 3, 4, 5, 6] rfl
                refine vp_callSi (va_Run.run (va_runV (As := []) (rest := []) ⟨hx, hb, hml, hown, hta⟩ (c_X2_marks E l ax gx_1374 lt_1375 mo_1376 ad_1377 ln_1378 PL_1379 pf_1380 pw_1381 pk_1382 lw_1383 lk_1384 ik_1385 _ hw) (pcV (n := 0) hta tw_219 tw_216 tw_1 tw_217 tw_218 rfl rfl hd_X2_marks ⟨Nat.le_of_ble_eq_true rfl, Nat.le_of_ble_eq_true rfl⟩) ⟨fbR, va_recv hKE.1 hP (ci := 3) (q0 := 0) rfl rfl, fun U hU hW => ⟨rfl, preR.mk hPc hKE hU hW⟩⟩ rfl rfl hl.1 rfl (lv_room (Nat.le_of_ble_eq_true rfl)) dL_isTicked_118 ⟨Nat.le_of_ble_eq_true rfl, Nat.le_of_ble_eq_true rfl⟩)) (fun r_1546 hw => ?_)
                refine lv_iload hx hb dL_isTicked_121 (lv_at hl 8 rfl) ?_
                refine lv_icmp_ne (tgt := 148) hx hb dL_isTicked_123 (by decide) (fun c_1547 => ?_) (fun c_1547 => ?_)
                · have hw := hw.2 c_1547
                  exact hw.elim
                · have hw := hw.1 c_1547
                  refine lv_aload_n hx hb dL_isTicked_126 rfl (lv_at hl 1 rfl) ?_
                  have hPc : va_P (eD E) vwCl (wX E ax gx_1374 lt_1375 mo_1376 ad_1377 ln_1378 PL_1379 pf_1380 pw_1381 pk_1382 lw_1383 lk_1384 ik_1385) H := hP.part [0, 1, 2, 3, 4, 5, 6] rfl
                  refine vp_callSi (va_Run.run (va_runV (As := []) (rest := []) ⟨hx, hb, hml, hown, hta⟩ (c_X2_stepsUp E l ax gx_1374 lt_1375 mo_1376 ad_1377 ln_1378 PL_1379 pf_1380 pw_1381 pk_1382 lw_1383 lk_1384 ik_1385 _ hw) (pcV (n := 0) hta tw_560 tw_557 tw_1 tw_558 tw_559 rfl rfl hd_X2_stepsUp ⟨Nat.le_of_ble_eq_true rfl, Nat.le_of_ble_eq_true rfl⟩) ⟨fbR, va_recv hKE.1 hP (ci := 3) (q0 := 0) rfl rfl, fun U hU hW => ⟨rfl, preR.mk hPc hKE hU hW⟩⟩ rfl rfl hl.1 rfl (lv_room (Nat.le_of_ble_eq_true rfl)) dL_isTicked_127 ⟨Nat.le_of_ble_eq_true rfl, Nat.le_of_ble_eq_true rfl⟩)) (fun r_1548 hw => ?_)
                  refine lv_iload hx hb dL_isTicked_130 (lv_at hl 6 rfl) ?_
                  refine lv_icmp_ne (tgt := 148) hx hb dL_isTicked_132 (by decide) (fun c_1549 => ?_) (fun c_1549 => ?_)
                  · have hw := hw.2 c_1549
                    exact hw.elim
                  · have hw := hw.1 c_1549
                    refine lv_aload_n hx hb dL_isTicked_135 rfl (lv_at hl 1 rfl) ?_
                    have hPc : va_P (eD E) vwCl (wX E ax gx_1374 lt_1375 mo_1376 ad_1377 ln_1378 PL_1379 pf_1380 pw_1381 pk_1382 lw_1383 lk_1384 ik_1385) H := hP.part [0, 1, 2, 3, 4, 5, 6] rfl
                    refine vp_callSi (va_Run.run (va_runV (As := []) (rest := []) ⟨hx, hb, hml, hown, hta⟩ (c_X2_stepsDown E l ax gx_1374 lt_1375 mo_1376 ad_1377 ln_1378 PL_1379 pf_1380 pw_1381 pk_1382 lw_1383 lk_1384 ik_1385 _ hw) (pcV (n := 0) hta tw_565 tw_562 tw_1 tw_563 tw_564 rfl rfl hd_X2_stepsDown ⟨Nat.le_of_ble_eq_true rfl, Nat.le_of_ble_eq_true rfl⟩) ⟨fbR, va_recv hKE.1 hP (ci := 3) (q0 := 0) rfl rfl, fun U hU hW => ⟨rfl, preR.mk hPc hKE hU hW⟩⟩ rfl rfl hl.1 rfl (lv_room (Nat.le_of_ble_eq_true rfl)) dL_isTicked_136 ⟨Nat.le_of_ble_eq_true rfl, Nat.le_of_ble_eq_true rfl⟩)) (fun r_1550 hw => ?_)
                    refine lv_iload hx hb dL_isTicked_139 (lv_at hl 7 rfl) ?_
                    refine lv_icmp_ne (tgt := 148) hx hb dL_isTicked_141 (by decide) (fun c_1551 => ?_) (fun c_1551 => ?_)
                    · have hw := hw.2 c_1551
                      exact hw.elim
                    · have hw := hw.1 c_1551
                      refine lv_iconst (v := 1) hx hb dL_isTicked_144 (by decide) ?_
                      refine lv_goto (tgt := 149) hx hb dL_isTicked_145 (by decide) ?_
                      have hP9 : va_P (eD E) vwCl (wLP E ax bx gx_1374 lt_1375 mo_1376 ad_1377 ln_1378 PL_1379 pf_1380 pw_1381 pk_1382 lw_1383 lk_1384 ik_1385 cw_L mw_L) H := hP
                      have hD9 : va_D A (wLP E ax bx gx_1374 lt_1375 mo_1376 ad_1377 ln_1378 PL_1379 pf_1380 pw_1381 pk_1382 lw_1383 lk_1384 ik_1385 cw_L mw_L) := hD
                      exact W.zret (v := 1) hx hb hr rfl (fun t ht hW => ⟨⟨1, (gx_1374, lt_1375, mo_1376, ad_1377, ln_1378, PL_1379, pf_1380, pw_1381, pk_1382, lw_1383, lk_1384, ik_1385, cw_L, mw_L), rfl, hw, ⟨by rw [ht]; exact hP9, hD9⟩⟩, hS.F ht⟩) hS.2.2 dL_isTicked_149
  unfold wp_L_isTicked at hw
  refine lv_aload_n hx hb dL_isTicked_0 rfl (lv_at hl 0 rfl) ?_
  have hPc : va_P (eD E) vwCl (wX E ax gx lt mo ad ln PL pf pw pk lw lk ik) s.heap := hP.part [0, 1, 2, 3, 4, 5, 6] rfl
  refine vp_callSi (va_Run.run (va_runV (As := []) (rest := []) ⟨hx, hb, hml, hown, hta⟩ (c_X2_timeLeft E l ax gx lt mo ad ln PL pf pw pk lw lk ik _ hw) (pcV (n := 0) hta tw_518 tw_515 tw_1 tw_516 tw_517 rfl rfl hd_X2_timeLeft ⟨Nat.le_of_ble_eq_true rfl, Nat.le_of_ble_eq_true rfl⟩) ⟨fbR, va_recv hKE.1 hP (ci := 3) (q0 := 0) rfl rfl, fun U hU hW => ⟨rfl, preR.mk hPc hKE hU hW⟩⟩ rfl rfl hl.1 rfl (lv_room (Nat.le_of_ble_eq_true rfl)) dL_isTicked_1 ⟨Nat.le_of_ble_eq_true rfl, Nat.le_of_ble_eq_true rfl⟩)) (fun r_1362 hw => ?_)
  refine lv_istore_n (lv' := [(3, .int r_1362), (0, .ref (ax 0)), (1, .ref (bx 0)), (2, .ref (bx 1))]) hx hb dL_isTicked_4 rfl hl (by decide) rfl (fun ls hl => ?_)
  refine lv_aload_n hx hb dL_isTicked_5 rfl (lv_at hl 1 rfl) ?_
  have hPc : va_P (eD E) vwCl (wX E ax gx lt mo ad ln PL pf pw pk lw lk ik) s.heap := hP.part [0, 1, 2, 3, 4, 5, 6] rfl
  refine vp_callSi (va_Run.run (va_runV (As := []) (rest := []) ⟨hx, hb, hml, hown, hta⟩ (c_X2_queued E l ax gx lt mo ad ln PL pf pw pk lw lk ik _ hw) (pcV (n := 0) hta tw_510 tw_507 tw_1 tw_508 tw_509 rfl rfl hd_X2_queued ⟨Nat.le_of_ble_eq_true rfl, Nat.le_of_ble_eq_true rfl⟩) ⟨fbR, va_recv hKE.1 hP (ci := 3) (q0 := 0) rfl rfl, fun U hU hW => ⟨rfl, preR.mk hPc hKE hU hW⟩⟩ rfl rfl hl.1 rfl (lv_room (Nat.le_of_ble_eq_true rfl)) dL_isTicked_6 ⟨Nat.le_of_ble_eq_true rfl, Nat.le_of_ble_eq_true rfl⟩)) (fun r_1363 hw => ?_)
  refine lv_istore (lv' := [(4, .int r_1363), (3, .int r_1362), (0, .ref (ax 0)), (1, .ref (bx 0)), (2, .ref (bx 1))]) hx hb dL_isTicked_9 hl (by decide) rfl (fun ls hl => ?_)
  refine lv_aload_n hx hb dL_isTicked_11 rfl (lv_at hl 2 rfl) ?_
  have hPc : va_P (eD E) vwCl (wX E ax gx lt mo ad ln PL pf pw pk lw lk ik) s.heap := hP.part [0, 1, 2, 3, 4, 5, 6] rfl
  refine vp_callSi (va_Run.run (va_runV (As := []) (rest := []) ⟨hx, hb, hml, hown, hta⟩ (c_X2_stepsUp E l ax gx lt mo ad ln PL pf pw pk lw lk ik _ hw) (pcV (n := 0) hta tw_560 tw_557 tw_1 tw_558 tw_559 rfl rfl hd_X2_stepsUp ⟨Nat.le_of_ble_eq_true rfl, Nat.le_of_ble_eq_true rfl⟩) ⟨fbR, va_recv hKE.1 hP (ci := 3) (q0 := 0) rfl rfl, fun U hU hW => ⟨rfl, preR.mk hPc hKE hU hW⟩⟩ rfl rfl hl.1 rfl (lv_room (Nat.le_of_ble_eq_true rfl)) dL_isTicked_12 ⟨Nat.le_of_ble_eq_true rfl, Nat.le_of_ble_eq_true rfl⟩)) (fun r_1364 hw => ?_)
  refine lv_istore (lv' := [(5, .int r_1364), (4, .int r_1363), (3, .int r_1362), (0, .ref (ax 0)), (1, .ref (bx 0)), (2, .ref (bx 1))]) hx hb dL_isTicked_15 hl (by decide) rfl (fun ls hl => ?_)
  refine lv_aload_n hx hb dL_isTicked_17 rfl (lv_at hl 3 rfl) ?_
  have hPc : va_P (eD E) vwCl (wX E ax gx lt mo ad ln PL pf pw pk lw lk ik) s.heap := hP.part [0, 1, 2, 3, 4, 5, 6] rfl
  refine vp_callSi (va_Run.run (va_runV (As := []) (rest := []) ⟨hx, hb, hml, hown, hta⟩ (c_X2_stepsDown E l ax gx lt mo ad ln PL pf pw pk lw lk ik _ hw) (pcV (n := 0) hta tw_565 tw_562 tw_1 tw_563 tw_564 rfl rfl hd_X2_stepsDown ⟨Nat.le_of_ble_eq_true rfl, Nat.le_of_ble_eq_true rfl⟩) ⟨fbR, va_recv hKE.1 hP (ci := 3) (q0 := 0) rfl rfl, fun U hU hW => ⟨rfl, preR.mk hPc hKE hU hW⟩⟩ rfl rfl hl.1 rfl (lv_room (Nat.le_of_ble_eq_true rfl)) dL_isTicked_18 ⟨Nat.le_of_ble_eq_true rfl, Nat.le_of_ble_eq_true rfl⟩)) (fun r_1365 hw => ?_)
  refine lv_istore (lv' := [(6, .int r_1365), (5, .int r_1364), (4, .int r_1363), (3, .int r_1362), (0, .ref (ax 0)), (1, .ref (bx 0)), (2, .ref (bx 1))]) hx hb dL_isTicked_21 hl (by decide) rfl (fun ls hl => ?_)
  refine lv_aload_n hx hb dL_isTicked_23 rfl (lv_at hl 4 rfl) ?_
  have hPc : va_P (eD E) vwCl (wX E ax gx lt mo ad ln PL pf pw pk lw lk ik) s.heap := hP.part [0, 1, 2, 3, 4, 5, 6] rfl
  refine vp_callSi (va_Run.run (va_runV (As := []) (rest := []) ⟨hx, hb, hml, hown, hta⟩ (c_X2_marks E l ax gx lt mo ad ln PL pf pw pk lw lk ik _ hw) (pcV (n := 0) hta tw_219 tw_216 tw_1 tw_217 tw_218 rfl rfl hd_X2_marks ⟨Nat.le_of_ble_eq_true rfl, Nat.le_of_ble_eq_true rfl⟩) ⟨fbR, va_recv hKE.1 hP (ci := 3) (q0 := 0) rfl rfl, fun U hU hW => ⟨rfl, preR.mk hPc hKE hU hW⟩⟩ rfl rfl hl.1 rfl (lv_room (Nat.le_of_ble_eq_true rfl)) dL_isTicked_24 ⟨Nat.le_of_ble_eq_true rfl, Nat.le_of_ble_eq_true rfl⟩)) (fun r_1366 hw => ?_)
  refine lv_istore (lv' := [(7, .int r_1366), (6, .int r_1365), (5, .int r_1364), (4, .int r_1363), (3, .int r_1362), (0, .ref (ax 0)), (1, .ref (bx 0)), (2, .ref (bx 1))]) hx hb dL_isTicked_27 hl (by decide) rfl (fun ls hl => ?_)
  refine lv_aload_n hx hb dL_isTicked_29 rfl (lv_at hl 5 rfl) ?_
  have hPc : va_P (eD E) vwCl (wX E ax gx lt mo ad ln PL pf pw pk lw lk ik) s.heap := hP.part [0, 1, 2, 3, 4, 5, 6] rfl
  refine vp_callSi (va_Run.run (va_runV (As := []) (rest := []) ⟨hx, hb, hml, hown, hta⟩ (c_X2_pen E l ax gx lt mo ad ln PL pf pw pk lw lk ik _ hw) (pcV (n := 0) hta tw_137 tw_134 tw_1 tw_135 tw_136 rfl rfl hd_X2_pen ⟨Nat.le_of_ble_eq_true rfl, Nat.le_of_ble_eq_true rfl⟩) ⟨fbR, va_recv hKE.1 hP (ci := 3) (q0 := 0) rfl rfl, fun U hU hW => ⟨rfl, preR.mk hPc hKE hU hW⟩⟩ rfl rfl hl.1 rfl (lv_room (Nat.le_of_ble_eq_true rfl)) dL_isTicked_30 ⟨Nat.le_of_ble_eq_true rfl, Nat.le_of_ble_eq_true rfl⟩)) (fun r_1367 hw => ?_)
  refine lv_istore (lv' := [(8, .int r_1367), (7, .int r_1366), (6, .int r_1365), (5, .int r_1364), (4, .int r_1363), (3, .int r_1362), (0, .ref (ax 0)), (1, .ref (bx 0)), (2, .ref (bx 1))]) hx hb dL_isTicked_33 hl (by decide) rfl (fun ls hl => ?_)
  refine lv_aload_n hx hb dL_isTicked_35 rfl (lv_at hl 6 rfl) ?_
  refine lv_iload hx hb dL_isTicked_36 (lv_at hl 0 rfl) ?_
  have hPc : va_P (eD E) vwCl (wX E ax gx lt mo ad ln PL pf pw pk lw lk ik) s.heap := hP.part [0, 1, 2, 3, 4, 5, 6] rfl
  refine vp_callSi (va_Run.run (va_runV (As := [.int r_1367]) (rest := []) ⟨hx, hb, hml, hown, hta⟩ (c_X2_ink_r E l ax gx lt mo ad ln PL pf pw pk lw lk ik r_1367 _ hw) (pcV (n := 1) hta tw_141 tw_138 tw_1 tw_139 tw_140 rfl rfl hd_X2_ink ⟨Nat.le_of_ble_eq_true rfl, Nat.le_of_ble_eq_true rfl⟩) ⟨fbR, va_recv hKE.1 hP (ci := 3) (q0 := 0) rfl rfl, fun U hU hW => ⟨rfl, preR.mk hPc hKE hU hW⟩⟩ rfl rfl hl.1 rfl (lv_room (Nat.le_of_ble_eq_true rfl)) dL_isTicked_38 ⟨Nat.le_of_ble_eq_true rfl, Nat.le_of_ble_eq_true rfl⟩)) (fun r_1368 hw => ?_)
  refine lv_istore (lv' := [(9, .int r_1368), (8, .int r_1367), (7, .int r_1366), (6, .int r_1365), (5, .int r_1364), (4, .int r_1363), (3, .int r_1362), (0, .ref (ax 0)), (1, .ref (bx 0)), (2, .ref (bx 1))]) hx hb dL_isTicked_41 hl (by decide) rfl (fun ls hl => ?_)
  refine lv_aload_n hx hb dL_isTicked_43 rfl (lv_at hl 7 rfl) ?_
  have hPc : va_P (eD E) vwCl (wX E ax gx lt mo ad ln PL pf pw pk lw lk ik) s.heap := hP.part [0, 1, 2, 3, 4, 5, 6] rfl
  refine vp_callSi (va_Run.run (va_runV (As := []) (rest := []) ⟨hx, hb, hml, hown, hta⟩ (c_X2_at E l ax gx lt mo ad ln PL pf pw pk lw lk ik _ hw) (pcV (n := 0) hta tw_522 tw_519 tw_1 tw_520 tw_521 rfl rfl hd_X2_at ⟨Nat.le_of_ble_eq_true rfl, Nat.le_of_ble_eq_true rfl⟩) ⟨fbR, va_recv hKE.1 hP (ci := 3) (q0 := 0) rfl rfl, fun U hU hW => ⟨rfl, preR.mk hPc hKE hU hW⟩⟩ rfl rfl hl.1 rfl (lv_room (Nat.le_of_ble_eq_true rfl)) dL_isTicked_44 ⟨Nat.le_of_ble_eq_true rfl, Nat.le_of_ble_eq_true rfl⟩)) (fun r_1369 hw => ?_)
  refine lv_istore (lv' := [(10, .int r_1369), (9, .int r_1368), (8, .int r_1367), (7, .int r_1366), (6, .int r_1365), (5, .int r_1364), (4, .int r_1363), (3, .int r_1362), (0, .ref (ax 0)), (1, .ref (bx 0)), (2, .ref (bx 1))]) hx hb dL_isTicked_47 hl (by decide) rfl (fun ls hl => ?_)
  refine lv_aload_n hx hb dL_isTicked_49 rfl (lv_at hl 8 rfl) ?_
  have hPc : va_P (eD E) vwCl (wX E ax gx lt mo ad ln PL pf pw pk lw lk ik) s.heap := hP.part [0, 1, 2, 3, 4, 5, 6] rfl
  refine vp_callSi (va_Run.run (va_runV (As := []) (rest := []) ⟨hx, hb, hml, hown, hta⟩ (c_X2_isDown E l ax gx lt mo ad ln PL pf pw pk lw lk ik _ hw) (pcV (n := 0) hta tw_533 tw_530 tw_1 tw_531 tw_532 rfl rfl hd_X2_isDown ⟨Nat.le_of_ble_eq_true rfl, Nat.le_of_ble_eq_true rfl⟩) ⟨fbR, va_recv hKE.1 hP (ci := 3) (q0 := 0) rfl rfl, fun U hU hW => ⟨rfl, preR.mk hPc hKE hU hW⟩⟩ rfl rfl hl.1 rfl (lv_room (Nat.le_of_ble_eq_true rfl)) dL_isTicked_50 ⟨Nat.le_of_ble_eq_true rfl, Nat.le_of_ble_eq_true rfl⟩)) (fun r_1370 hw => ?_)
  refine lv_istore (lv' := [(11, .int r_1370), (10, .int r_1369), (9, .int r_1368), (8, .int r_1367), (7, .int r_1366), (6, .int r_1365), (5, .int r_1364), (4, .int r_1363), (3, .int r_1362), (0, .ref (ax 0)), (1, .ref (bx 0)), (2, .ref (bx 1))]) hx hb dL_isTicked_53 hl (by decide) rfl (fun ls hl => ?_)
  refine lv_aload_n hx hb dL_isTicked_55 rfl (lv_at hl 9 rfl) ?_
  have hPc : va_P (eD E) vwCl (wX E ax gx lt mo ad ln PL pf pw pk lw lk ik) s.heap := hP.part [0, 1, 2, 3, 4, 5, 6] rfl
  refine vp_callSi (va_Run.run (va_runV (As := []) (rest := []) ⟨hx, hb, hml, hown, hta⟩ (c_X2_isWaiting E l ax gx lt mo ad ln PL pf pw pk lw lk ik _ hw) (pcV (n := 0) hta tw_526 tw_523 tw_1 tw_524 tw_525 rfl rfl hd_X2_isWaiting ⟨Nat.le_of_ble_eq_true rfl, Nat.le_of_ble_eq_true rfl⟩) ⟨fbR, va_recv hKE.1 hP (ci := 3) (q0 := 0) rfl rfl, fun U hU hW => ⟨rfl, preR.mk hPc hKE hU hW⟩⟩ rfl rfl hl.1 rfl (lv_room (Nat.le_of_ble_eq_true rfl)) dL_isTicked_56 ⟨Nat.le_of_ble_eq_true rfl, Nat.le_of_ble_eq_true rfl⟩)) (fun r_1371 hw => ?_)
  refine lv_istore (lv' := [(12, .int r_1371), (11, .int r_1370), (10, .int r_1369), (9, .int r_1368), (8, .int r_1367), (7, .int r_1366), (6, .int r_1365), (5, .int r_1364), (4, .int r_1363), (3, .int r_1362), (0, .ref (ax 0)), (1, .ref (bx 0)), (2, .ref (bx 1))]) hx hb dL_isTicked_59 hl (by decide) rfl (fun ls hl => ?_)
  refine lv_aload_n hx hb dL_isTicked_61 rfl (lv_at hl 12 rfl) ?_
  refine lv_iconst (v := 0) hx hb dL_isTicked_62 (by decide) ?_
  refine va_iald hx hb hKE.1 hP 8 0 rfl rfl (show vp_in 0 8 from by unfold vp_in; decide) dL_isTicked_63 ?_
  refine lv_if_ne (tgt := 71) hx hb dL_isTicked_64 (by decide) (fun c_1372 => ?_) (fun c_1372 => ?_)
  · have hw := hw.2 c_1372
    refine lv_aload_n hx hb dL_isTicked_71 rfl (lv_at hl 11 rfl) ?_
    refine lv_iconst (v := 0) hx hb dL_isTicked_72 (by decide) ?_
    refine va_iald hx hb hKE.1 hP 7 0 rfl rfl (show vp_in 0 64 from by unfold vp_in; decide) dL_isTicked_73 ?_
    refine lv_istore (lv' := [(13, .int (cw (0 : Int32).toNatClampNeg)), (12, .int r_1371), (11, .int r_1370), (10, .int r_1369), (9, .int r_1368), (8, .int r_1367), (7, .int r_1366), (6, .int r_1365), (5, .int r_1364), (4, .int r_1363), (3, .int r_1362), (0, .ref (ax 0)), (1, .ref (bx 0)), (2, .ref (bx 1))]) hx hb dL_isTicked_74 hl (by decide) rfl (fun ls hl => ?_)
    obtain ⟨n_1552, hw⟩ := hw
    exact loop_76 n_1552 gx lt mo ad ln PL pf pw pk lw lk ik cw mw r_1362 r_1363 r_1364 r_1365 r_1366 r_1367 r_1368 r_1369 r_1370 r_1371 (cw (0 : Int32).toNatClampNeg) hw _ _ hP hD hS ls (lv_sub hl [11, 12, 13, 10, 9, 8, 7, 6, 5, 4, 3, 2, 1, 0] rfl)
  · have hw := hw.1 c_1372
    refine lv_iconst (v := 0) hx hb dL_isTicked_67 (by decide) ?_
    refine lv_goto (tgt := 74) hx hb dL_isTicked_68 (by decide) ?_
    refine lv_istore (lv' := [(13, .int 0), (12, .int r_1371), (11, .int r_1370), (10, .int r_1369), (9, .int r_1368), (8, .int r_1367), (7, .int r_1366), (6, .int r_1365), (5, .int r_1364), (4, .int r_1363), (3, .int r_1362), (0, .ref (ax 0)), (1, .ref (bx 0)), (2, .ref (bx 1))]) hx hb dL_isTicked_74 hl (by decide) rfl (fun ls hl => ?_)
    obtain ⟨n_1553, hw⟩ := hw
    exact loop_76 n_1553 gx lt mo ad ln PL pf pw pk lw lk ik cw mw r_1362 r_1363 r_1364 r_1365 r_1366 r_1367 r_1368 r_1369 r_1370 r_1371 0 hw _ _ hP hD hS ls (lv_sub hl [11, 12, 13, 10, 9, 8, 7, 6, 5, 4, 3, 2, 1, 0] rfl)
