noncomputable def LB_X12_save_10 (rec : Int32 → Sg → Sg) (x1 : Int32) (σ : Sg) : Sg := (if (6 : Int32) ≤ x1 then σ else fl (si σ 134 x1.toNatClampNeg (gi σ 105 x1.toNatClampNeg)) (fun σ4 => fl (si σ4 135 x1.toNatClampNeg (gi σ4 106 x1.toNatClampNeg)) (fun σ7 => fl (si σ7 136 x1.toNatClampNeg (gi σ7 107 x1.toNatClampNeg)) (fun σ10 => fl (si σ10 137 x1.toNatClampNeg (gi σ10 108 x1.toNatClampNeg)) (fun σ13 => fl (si σ13 132 x1.toNatClampNeg (0 : Int32)) (fun σ15 => fl (x1 + 1) (fun v16 => rec v16 σ15)))))))
noncomputable def LF_X12_save : Nat → Int32 → Sg → Sg
  | 0, _, σ => σ
  | n + 1, x1, σ => LB_X12_save_10 (LF_X12_save n) x1 σ
noncomputable def F_X12_save (σ : Sg) : Sg := fl (si σ 74 33 (gi σ 74 1)) (fun σ1 => LF_X12_save 9 (0 : Int32) σ1)
noncomputable def LB_X12_putBack_10 (rec : Int32 → Sg → Sg) (x1 : Int32) (σ : Sg) : Sg := (if (6 : Int32) ≤ x1 then σ else fl (si σ 105 x1.toNatClampNeg (gi σ 134 x1.toNatClampNeg)) (fun σ4 => fl (si σ4 106 x1.toNatClampNeg (gi σ4 135 x1.toNatClampNeg)) (fun σ7 => fl (si σ7 107 x1.toNatClampNeg (gi σ7 136 x1.toNatClampNeg)) (fun σ10 => fl (si σ10 108 x1.toNatClampNeg (gi σ10 137 x1.toNatClampNeg)) (fun σ13 => fl (x1 + 1) (fun v14 => rec v14 σ13))))))
noncomputable def LF_X12_putBack : Nat → Int32 → Sg → Sg
  | 0, _, σ => σ
  | n + 1, x1, σ => LB_X12_putBack_10 (LF_X12_putBack n) x1 σ
noncomputable def F_X12_putBack (σ : Sg) : Sg := fl (si σ 74 1 (gi σ 74 33)) (fun σ1 => LF_X12_putBack 9 (0 : Int32) σ1)
noncomputable def LB_X12_all_4 (rec : Int32 → Int32 → Sg → Int32 × Sg) (x1 : Int32) (x2 : Int32) (σ : Sg) : Int32 × Sg := (if (gi σ 74 0) ≤ x2 then (x1, σ) else fl (x1 + (gi σ 105 x2.toNatClampNeg)) (fun v3 => fl (x2 + 1) (fun v4 => rec v3 v4 σ)))
noncomputable def LF_X12_all : Nat → Int32 → Int32 → Sg → Int32 × Sg
  | 0, _, _, σ => (0, σ)
  | n + 1, x1, x2, σ => LB_X12_all_4 (LF_X12_all n) x1 x2 σ
noncomputable def F_X12_all (σ : Sg) : Int32 × Sg := LF_X12_all 9 (0 : Int32) (0 : Int32) σ
noncomputable def F_X12_hasty (a1 : Int32) (a2 : Int32) (σ : Sg) : Int32 × Sg := (if (gi σ 106 a1.toNatClampNeg) ≤ (5 : Int32) then (a2, σ) else (a2 + (gi σ 104 a1.toNatClampNeg), σ))
noncomputable def F_X12_isPressed (a1 : Int32) (σ : Sg) : Int32 × Sg := (if (gi σ 74 2) ≤ (a1 + (1 : Int32)) then ((0 : Int32), σ) else fb (F_X12_gap σ) (fun r7 σ6 => (if (r7 + (3 : Int32)) ≤ ((gi σ 105 (gi σ 110 a1.toNatClampNeg).toNatClampNeg) - (gi σ 105 (gi σ 110 (a1 + (1 : Int32)).toNatClampNeg).toNatClampNeg)) then ((0 : Int32), σ6) else ((1 : Int32), σ6))))
noncomputable def F_X12_strideOf (a1 : Int32) (a2 : Int32) (a3 : Int32) (σ : Sg) : Int32 × Sg := fb (F_X12_most (0 : Int32) (a3 - ((gi σ 107 a2.toNatClampNeg) / (20 : Int32))) σ) (fun r3 σ2 => (if (gi σ2 103 a2.toNatClampNeg).toInt = 1 then (a3, σ2) else (if (gi σ2 103 a2.toNatClampNeg).toInt = 2 then fb (F_X12_hasty a2 r3 σ2) (fun r7 σ6 => (r7, σ6)) else (if (gi σ2 103 a2.toNatClampNeg).toInt = 3 then (r3 / (2 : Int32), σ2) else (if (gi σ2 103 a2.toNatClampNeg).toInt = 4 then (a3 - ((gi σ2 104 a2.toNatClampNeg) / (3 : Int32)), σ2) else (if (gi σ2 103 a2.toNatClampNeg).toInt = 5 then fb (F_X12_hasty a2 r3 σ2) (fun r10 σ9 => fb (F_X12_isPressed a1 σ9) (fun r12 σ11 => (if r12 = 0 then (r10 + (0 : Int32), σ11) else (r10 + (2 : Int32), σ11)))) else (if (gi σ2 103 a2.toNatClampNeg).toInt = 6 then ((r3 / (2 : Int32)) + (gi σ2 109 (((4 : Int32) * a2) + ((gi σ2 74 1) - (gi σ2 74 1) / (4 : Int32) * (4 : Int32))).toNatClampNeg), σ2) else (r3, σ2))))))))
noncomputable def LB_X12_goWhet_2 (rec : Int32 → Sg → Sg) (x1 : Int32) (σ : Sg) : Sg := (if (gi σ 74 0) ≤ x1 then fl (si σ 74 1 ((gi σ 74 1) + (1 : Int32))) (fun σ2 => σ2) else fl (si σ 106 x1.toNatClampNeg (10 : Int32)) (fun σ4 => fb (F_X12_most (0 : Int32) ((gi σ4 107 x1.toNatClampNeg) - (1 : Int32)) σ4) (fun r7 σ6 => fl (si σ6 107 x1.toNatClampNeg r7) (fun σ9 => fb (F_X12_most (0 : Int32) ((gi σ9 108 x1.toNatClampNeg) - (1 : Int32)) σ9) (fun r12 σ11 => fl (si σ11 108 x1.toNatClampNeg r12) (fun σ14 => fl (x1 + 1) (fun v15 => rec v15 σ14)))))))
noncomputable def LF_X12_goWhet : Nat → Int32 → Sg → Sg
  | 0, _, σ => σ
  | n + 1, x1, σ => LB_X12_goWhet_2 (LF_X12_goWhet n) x1 σ
noncomputable def F_X12_goWhet (σ : Sg) : Sg := LF_X12_goWhet 9 (0 : Int32) σ
noncomputable def LB_X12_goPause_2 (rec : Int32 → Int32 → Sg → Sg) (x1 : Int32) (x2 : Int32) (σ : Sg) : Sg := (if (gi σ 74 0) ≤ x2 then fl (si σ 74 1 ((gi σ 74 1) + x1)) (fun σ2 => σ2) else fb (F_X12_most (0 : Int32) ((gi σ 107 x2.toNatClampNeg) - ((3 : Int32) * x1)) σ) (fun r5 σ4 => fl (si σ4 107 x2.toNatClampNeg r5) (fun σ7 => fb (F_X12_most (0 : Int32) ((gi σ7 108 x2.toNatClampNeg) - x1) σ7) (fun r10 σ9 => fl (si σ9 108 x2.toNatClampNeg r10) (fun σ12 => fl (x2 + 1) (fun v13 => rec x1 v13 σ12))))))
noncomputable def LF_X12_goPause : Nat → Int32 → Int32 → Sg → Sg
  | 0, _, _, σ => σ
  | n + 1, x1, x2, σ => LB_X12_goPause_2 (LF_X12_goPause n) x1 x2 σ
noncomputable def F_X12_goPause (a1 : Int32) (σ : Sg) : Sg := LF_X12_goPause 9 a1 (0 : Int32) σ
noncomputable def LB_X12_isDone_2 (rec : Int32 → Sg → Int32 × Sg) (x1 : Int32) (σ : Sg) : Int32 × Sg := (if (gi σ 74 0) ≤ x1 then ((1 : Int32), σ) else fb (F_X12_fieldLong σ) (fun r4 σ3 => (if r4 ≤ (gi σ 105 x1.toNatClampNeg) then fl (x1 + 1) (fun v6 => rec v6 σ3) else ((0 : Int32), σ3))))
noncomputable def LF_X12_isDone : Nat → Int32 → Sg → Int32 × Sg
  | 0, _, σ => (0, σ)
  | n + 1, x1, σ => LB_X12_isDone_2 (LF_X12_isDone n) x1 σ
noncomputable def F_X12_isDone (σ : Sg) : Int32 × Sg := LF_X12_isDone 9 (0 : Int32) σ
noncomputable def LB_X12_holds_10 (rec : Int32 → Int32 → Int32 → Int32 → Sg → Int32 × Sg) (x1 : Int32) (x2 : Int32) (x3 : Int32) (x4 : Int32) (σ : Sg) : Int32 × Sg := (if (gi σ 121 x1.toNatClampNeg) ≤ x4 then (gi σ 129 (0 : Int32).toNatClampNeg, σ) else fl (gi σ 122 x4.toNatClampNeg) (fun v5 => (if v5 = (-33 : Int32) then (if (gi σ 129 (x3 - (1 : Int32)).toNatClampNeg) = 0 then fl (si σ 129 (x3 - (1 : Int32)).toNatClampNeg (vp_nar .boolean (1 : Int32))) (fun σ74 => fl (x4 + 1) (fun v75 => rec x1 x2 x3 v75 σ74)) else fl (si σ 129 (x3 - (1 : Int32)).toNatClampNeg (vp_nar .boolean (0 : Int32))) (fun σ71 => fl (x4 + 1) (fun v72 => rec x1 x2 x3 v72 σ71))) else (if 0 ≤ v5 then fb (F_X12_factOf (v5 / (1000 : Int32)) x2 σ) (fun r9 σ8 => fl ((v5 / (100 : Int32)) - (v5 / (100 : Int32)) / (10 : Int32) * (10 : Int32)) (fun v10 => (if v10 = 0 then (if (v5 - v5 / (100 : Int32) * (100 : Int32)) ≤ r9 then fl (si σ8 129 x3.toNatClampNeg (vp_nar .boolean (0 : Int32))) (fun σ33 => fl (x3 + 1) (fun v34 => fl (x4 + 1) (fun v35 => rec x1 x2 v34 v35 σ33))) else fl (si σ8 129 x3.toNatClampNeg (vp_nar .boolean (1 : Int32))) (fun σ37 => fl (x3 + 1) (fun v38 => fl (x4 + 1) (fun v39 => rec x1 x2 v38 v39 σ37)))) else (if v10 = (1 : Int32) then (if r9 = (v5 - v5 / (100 : Int32) * (100 : Int32)) then fl (si σ8 129 x3.toNatClampNeg (vp_nar .boolean (1 : Int32))) (fun σ28 => fl (x3 + 1) (fun v29 => fl (x4 + 1) (fun v30 => rec x1 x2 v29 v30 σ28))) else fl (si σ8 129 x3.toNatClampNeg (vp_nar .boolean (0 : Int32))) (fun σ24 => fl (x3 + 1) (fun v25 => fl (x4 + 1) (fun v26 => rec x1 x2 v25 v26 σ24)))) else (if r9 ≤ (v5 - v5 / (100 : Int32) * (100 : Int32)) then fl (si σ8 129 x3.toNatClampNeg (vp_nar .boolean (0 : Int32))) (fun σ15 => fl (x3 + 1) (fun v16 => fl (x4 + 1) (fun v17 => rec x1 x2 v16 v17 σ15))) else fl (si σ8 129 x3.toNatClampNeg (vp_nar .boolean (1 : Int32))) (fun σ19 => fl (x3 + 1) (fun v20 => fl (x4 + 1) (fun v21 => rec x1 x2 v20 v21 σ19)))))))) else fl (x3 - 1) (fun v40 => (if v5 = (-38 : Int32) then (if (gi σ 129 (v40 - (1 : Int32)).toNatClampNeg) = 0 then fl (si σ 129 (v40 - (1 : Int32)).toNatClampNeg (vp_nar .boolean (0 : Int32))) (fun σ58 => fl (x4 + 1) (fun v59 => rec x1 x2 v40 v59 σ58)) else (if (gi σ 129 v40.toNatClampNeg) = 0 then fl (si σ 129 (v40 - (1 : Int32)).toNatClampNeg (vp_nar .boolean (0 : Int32))) (fun σ63 => fl (x4 + 1) (fun v64 => rec x1 x2 v40 v64 σ63)) else fl (si σ 129 (v40 - (1 : Int32)).toNatClampNeg (vp_nar .boolean (1 : Int32))) (fun σ66 => fl (x4 + 1) (fun v67 => rec x1 x2 v40 v67 σ66)))) else (if (gi σ 129 (v40 - (1 : Int32)).toNatClampNeg) = 0 then (if (gi σ 129 v40.toNatClampNeg) = 0 then fl (si σ 129 (v40 - (1 : Int32)).toNatClampNeg (vp_nar .boolean (0 : Int32))) (fun σ50 => fl (x4 + 1) (fun v51 => rec x1 x2 v40 v51 σ50)) else fl (si σ 129 (v40 - (1 : Int32)).toNatClampNeg (vp_nar .boolean (1 : Int32))) (fun σ53 => fl (x4 + 1) (fun v54 => rec x1 x2 v40 v54 σ53))) else fl (si σ 129 (v40 - (1 : Int32)).toNatClampNeg (vp_nar .boolean (1 : Int32))) (fun σ45 => fl (x4 + 1) (fun v46 => rec x1 x2 v40 v46 σ45)))))))))
noncomputable def LF_X12_holds : Nat → Int32 → Int32 → Int32 → Int32 → Sg → Int32 × Sg
  | 0, _, _, _, _, σ => (0, σ)
  | n + 1, x1, x2, x3, x4, σ => LB_X12_holds_10 (LF_X12_holds n) x1 x2 x3 x4 σ
noncomputable def F_X12_holds (a1 : Int32) (a2 : Int32) (σ : Sg) : Int32 × Sg := fl (gi σ 120 a1.toNatClampNeg) (fun v2 => LF_X12_holds 700 a1 a2 (0 : Int32) v2 σ)
noncomputable def LB_X12_paceAt_13 (rec : Int32 → Int32 → Int32 → Sg → Int32 × Sg) (x1 : Int32) (x2 : Int32) (x3 : Int32) (σ : Sg) : Int32 × Sg := fb (F_X12_behind σ) (fun r2 σ1 => (if r2 ≤ x3 then fb (F_X12_most (0 : Int32) x2 σ1) (fun r5 σ4 => (r5, σ4)) else (if (1 : Int32) < (gi σ1 118 x3.toNatClampNeg) then fl (x3 + 1) (fun v8 => rec x1 x2 v8 σ1) else fb (F_X12_holds x3 (gi σ1 110 x1.toNatClampNeg) σ1) (fun r11 σ10 => (if r11 = 0 then fl (x3 + 1) (fun v21 => rec x1 x2 v21 σ10) else (if (gi σ10 118 x3.toNatClampNeg) = 0 then fl (x2 + (gi σ10 119 x3.toNatClampNeg)) (fun v19 => fl (x3 + 1) (fun v20 => rec x1 v19 v20 σ10)) else fl (x2 + (-(gi σ10 119 x3.toNatClampNeg))) (fun v16 => fl (x3 + 1) (fun v17 => rec x1 v16 v17 σ10))))))))
noncomputable def LF_X12_paceAt : Nat → Int32 → Int32 → Int32 → Sg → Int32 × Sg
  | 0, _, _, _, σ => (0, σ)
  | n + 1, x1, x2, x3, σ => LB_X12_paceAt_13 (LF_X12_paceAt n) x1 x2 x3 σ
noncomputable def F_X12_paceAt (a1 : Int32) (σ : Sg) : Int32 × Sg := fl (si σ 74 30 a1) (fun σ1 => fb (F_X12_begin σ1) (fun r3 σ2 => LF_X12_paceAt 90 a1 (6 : Int32) r3 σ2))
noncomputable def F_X12_strideAt (a1 : Int32) (σ : Sg) : Int32 × Sg := fl (gi σ 110 a1.toNatClampNeg) (fun v2 => fb (F_X12_paceAt a1 σ) (fun r4 σ3 => fb (F_X12_strideOf a1 v2 r4 σ3) (fun r6 σ5 => fb (F_X12_most (0 : Int32) r6 σ5) (fun r8 σ7 => (if (gi σ7 106 v2.toNatClampNeg) = 0 then (r8 / (2 : Int32), σ7) else (r8, σ7))))))
noncomputable def LB_X12_goes_82 (rec : Nat → Int32 → Int32 → Int32 → Int32 → Sg → Int32 × Sg) (x1 : Int32) (x2 : Int32) (z0 : Int32) (σ : Sg) : Int32 × Sg := fb (F_X12_least z0 ((gi σ 105 x2.toNatClampNeg) + (gi σ 131 x1.toNatClampNeg)) σ) (fun r5 σ4 => fb (F_X12_most (gi σ 105 x2.toNatClampNeg) r5 σ4) (fun r7 σ6 => fl (r7 - (gi σ6 105 x2.toNatClampNeg)) (fun v9 => fl (si σ6 105 x2.toNatClampNeg r7) (fun σ11 => (if v9 ≤ 0 then fb (F_X12_most (0 : Int32) ((gi σ11 107 x2.toNatClampNeg) - (2 : Int32)) σ11) (fun r15 σ14 => fl (si σ14 107 x2.toNatClampNeg r15) (fun σ17 => rec 1 x1 0 0 v9 σ17)) else fb (F_X12_most (0 : Int32) ((gi σ11 106 x2.toNatClampNeg) - (1 : Int32)) σ11) (fun r20 σ19 => fl (si σ19 106 x2.toNatClampNeg r20) (fun σ22 => fb (F_X12_lastOf (3 : Int32) (1 : Int32) σ22) (fun r25 σ24 => fb (F_X12_least (99 : Int32) ((gi σ22 107 x2.toNatClampNeg) + r25) σ24) (fun r27 σ26 => fl (si σ26 107 x2.toNatClampNeg r27) (fun σ29 => rec 1 x1 0 0 v9 σ29))))))))))
noncomputable def LB_X12_goes_203 (rec : Nat → Int32 → Int32 → Int32 → Int32 → Sg → Int32 × Sg) (x1 : Int32) (x5 : Int32) (σ : Sg) : Int32 × Sg := (if (gi σ 131 x1.toNatClampNeg) ≤ x5 then ((0 : Int32), σ) else ((1 : Int32), σ))
noncomputable def LF_X12_goes : Nat → Nat → Int32 → Int32 → Int32 → Int32 → Sg → Int32 × Sg
  | 0, _, _, _, _, _, σ => (0, σ)
  | n + 1, 0, x1, x2, z0, _, σ => LB_X12_goes_82 (LF_X12_goes n) x1 x2 z0 σ
  | n + 1, 1, x1, _, _, x5, σ => LB_X12_goes_203 (LF_X12_goes n) x1 x5 σ
  | _ + 1, _ + 2, _, _, _, _, σ => (0, σ)
noncomputable def F_X12_goes (a1 : Int32) (σ : Sg) : Int32 × Sg := fl (gi σ 110 a1.toNatClampNeg) (fun v2 => (if (gi σ 108 v2.toNatClampNeg) ≤ 0 then (if a1 = 0 then LF_X12_goes 9 0 a1 v2 (9999 : Int32) 0 σ else fb (F_X12_gap σ) (fun r9 σ8 => fb (F_X12_least (9999 : Int32) ((gi σ 105 (gi σ 110 (a1 - (1 : Int32)).toNatClampNeg).toNatClampNeg) - r9) σ8) (fun r11 σ10 => LF_X12_goes 9 0 a1 v2 r11 0 σ10))) else fl (si σ 108 v2.toNatClampNeg ((gi σ 108 v2.toNatClampNeg) - (1 : Int32))) (fun σ14 => fb (F_X12_most (0 : Int32) ((gi σ14 107 v2.toNatClampNeg) - (2 : Int32)) σ14) (fun r17 σ16 => fl (si σ16 107 v2.toNatClampNeg r17) (fun σ19 => ((0 : Int32), σ19))))))
noncomputable def LB_X12_goMinute_2 (rec : Nat → Int32 → Int32 → Sg → Int32 × Sg) (x1 : Int32) (σ : Sg) : Int32 × Sg := (if (gi σ 74 2) ≤ x1 then rec 1 (0 : Int32) (0 : Int32) σ else fb (F_X12_strideAt x1 σ) (fun r3 σ2 => fl (si σ2 131 x1.toNatClampNeg r3) (fun σ5 => fl (x1 + 1) (fun v6 => rec 0 v6 0 σ5))))
noncomputable def LB_X12_goMinute_31 (rec : Nat → Int32 → Int32 → Sg → Int32 × Sg) (x1 : Int32) (x2 : Int32) (σ : Sg) : Int32 × Sg := (if (gi σ 74 2) ≤ x2 then fl (si σ 74 1 ((gi σ 74 1) + (1 : Int32))) (fun σ2 => (x1, σ2)) else fb (F_X12_goes x2 σ) (fun r4 σ3 => (if r4 = 0 then fl (x2 + 1) (fun v13 => rec 1 x1 v13 σ3) else fl (x1 ||| ((1 : Int32) <<< ((gi σ3 110 x2.toNatClampNeg) &&& 31))) (fun v7 => fl (si σ3 132 (gi σ3 110 x2.toNatClampNeg).toNatClampNeg ((gi σ3 132 (gi σ3 110 x2.toNatClampNeg).toNatClampNeg) + (1 : Int32))) (fun σ11 => fl (x2 + 1) (fun v12 => rec 1 v7 v12 σ11))))))
noncomputable def LF_X12_goMinute : Nat → Nat → Int32 → Int32 → Sg → Int32 × Sg
  | 0, _, _, _, σ => (0, σ)
  | n + 1, 0, x1, _, σ => LB_X12_goMinute_2 (LF_X12_goMinute n) x1 σ
  | n + 1, 1, x1, x2, σ => LB_X12_goMinute_31 (LF_X12_goMinute n) x1 x2 σ
  | _ + 1, _ + 2, _, _, σ => (0, σ)
noncomputable def F_X12_goMinute (σ : Sg) : Int32 × Sg := LF_X12_goMinute 900 0 (0 : Int32) 0 σ
noncomputable def LB_X12_goMinutes_2 (rec : Int32 → Int32 → Sg → Sg) (x1 : Int32) (x2 : Int32) (σ : Sg) : Sg := (if x1 ≤ x2 then σ else fb (F_X12_goMinute σ) (fun r3 σ2 => fl (x2 + 1) (fun v4 => rec x1 v4 σ2)))
noncomputable def LF_X12_goMinutes : Nat → Int32 → Int32 → Sg → Sg
  | 0, _, _, σ => σ
  | n + 1, x1, x2, σ => LB_X12_goMinutes_2 (LF_X12_goMinutes n) x1 x2 σ
noncomputable def F_X12_goMinutes (a1 : Int32) (σ : Sg) : Sg := LF_X12_goMinutes 300 a1 (0 : Int32) σ
noncomputable def F_X12_allBehind (a1 : Int32) (σ : Sg) : Int32 × Sg := fl (F_X12_save σ) (fun σ1 => fl (F_X12_goMinutes a1 σ1) (fun σ2 => fb (F_X12_all σ2) (fun r4 σ3 => fl (F_X12_putBack σ3) (fun σ5 => (r4, σ5)))))
noncomputable def F_X12_minute (σ : Sg) : Int32 × Sg := (if (gi σ 74 1) = (9999 : Int32) then ((-3 : Int32), σ) else fb (F_X12_goMinute σ) (fun r3 σ2 => (r3, σ2)))
noncomputable def F_X12_whet (σ : Sg) : Int32 × Sg := (if (gi σ 74 1) = (9999 : Int32) then ((-3 : Int32), σ) else fl (F_X12_goWhet σ) (fun σ2 => (gi σ2 74 1, σ2)))
noncomputable def F_X12_pause (a1 : Int32) (σ : Sg) : Int32 × Sg := fb (F_X12_in a1 (1 : Int32) (60 : Int32) σ) (fun r2 σ1 => (if r2 = 0 then ((-2 : Int32), σ1) else (if ((gi σ1 74 1) + a1) ≤ (9999 : Int32) then fl (F_X12_goPause a1 σ1) (fun σ5 => (gi σ5 74 1, σ5)) else ((-3 : Int32), σ1))))
noncomputable def F_X12_see (a1 : Int32) (a2 : Int32) (a3 : Int32) (σ : Sg) : Int32 × Sg := (if a1 = (-1 : Int32) then fl (si σ 74 41 (0 : Int32)) (fun σ19 => ((0 : Int32), σ19)) else fb (F_X12_isMower a1 σ) (fun r3 σ2 => (if r3 = 0 then ((-1 : Int32), σ2) else fb (F_X12_in a2 (0 : Int32) (30 : Int32) σ2) (fun r6 σ5 => (if r6 = 0 then ((-2 : Int32), σ5) else fb (F_X12_in a3 (0 : Int32) (9999 : Int32) σ5) (fun r9 σ8 => (if r9 = 0 then ((-2 : Int32), σ8) else (if (gi σ8 74 41) = (6 : Int32) then ((-4 : Int32), σ8) else fl (si σ8 142 (gi σ8 74 41).toNatClampNeg a1) (fun σ13 => fl (si σ13 143 (gi σ13 74 41).toNatClampNeg a2) (fun σ15 => fl (si σ15 144 (gi σ15 74 41).toNatClampNeg a3) (fun σ17 => fl (si σ17 74 41 ((gi σ17 74 41) + (1 : Int32))) (fun σ18 => (gi σ18 74 41, σ18)))))))))))))
noncomputable def F_X12_plan (a1 : Int32) (σ : Sg) : Int32 × Sg := (if a1 = (-1 : Int32) then fl (si σ 74 45 (0 : Int32)) (fun σ9 => ((0 : Int32), σ9)) else fb (F_X12_in a1 (0 : Int32) (2 : Int32) σ) (fun r3 σ2 => (if r3 = 0 then ((-1 : Int32), σ2) else (if (gi σ2 74 45) = (10 : Int32) then ((-4 : Int32), σ2) else fl (si σ2 147 (gi σ2 74 45).toNatClampNeg a1) (fun σ7 => fl (si σ7 74 45 ((gi σ7 74 45) + (1 : Int32))) (fun σ8 => (gi σ8 74 45, σ8)))))))
noncomputable def LB_X12_apart_34 (rec : Int32 → Int32 → Int32 → Int32 → Int32 → Sg → Int32 × Sg) (x1 : Int32) (x2 : Int32) (x3 : Int32) (x4 : Int32) (x5 : Int32) (σ : Sg) : Int32 × Sg := (if (10 : Int32) ≤ x5 then fl (si σ 74 28 (-1 : Int32)) (fun σ2 => (if x2 = 0 then (x3, σ2) else (x4, σ2))) else fl (si σ 74 28 x5) (fun σ4 => fb (F_X12_allBehind x1 σ4) (fun r6 σ5 => (if x4 < r6 then fl (x5 + 1) (fun v8 => rec x1 x2 x5 r6 v8 σ5) else fl (x5 + 1) (fun v9 => rec x1 x2 x3 x4 v9 σ5)))))
noncomputable def LF_X12_apart : Nat → Int32 → Int32 → Int32 → Int32 → Int32 → Sg → Int32 × Sg
  | 0, _, _, _, _, _, σ => (0, σ)
  | n + 1, x1, x2, x3, x4, x5, σ => LB_X12_apart_34 (LF_X12_apart n) x1 x2 x3 x4 x5 σ
noncomputable def F_X12_apart (a1 : Int32) (a2 : Int32) (σ : Sg) : Int32 × Sg := fb (F_X12_in a2 (0 : Int32) (1 : Int32) σ) (fun r2 σ1 => (if r2 = 0 then ((-1 : Int32), σ1) else fb (F_X12_in a1 (1 : Int32) (60 : Int32) σ1) (fun r5 σ4 => (if r5 = 0 then ((-2 : Int32), σ4) else LF_X12_apart 20 a1 a2 (0 : Int32) (-1 : Int32) (0 : Int32) σ4))))
noncomputable def LB_X12_looked_15 (rec : Int32 → Int32 → Sg → Int32 × Sg) (x1 : Int32) (x2 : Int32) (σ : Sg) : Int32 × Sg := (if (gi σ 74 46) ≤ x2 then ((-5 : Int32), σ) else fb (F_X12_has x1 (gi σ 148 x2.toNatClampNeg) σ) (fun r4 σ3 => (if r4 = 0 then (x2, σ3) else fl (x2 + 1) (fun v6 => rec x1 v6 σ3))))
noncomputable def LF_X12_looked : Nat → Int32 → Int32 → Sg → Int32 × Sg
  | 0, _, _, σ => (0, σ)
  | n + 1, x1, x2, σ => LB_X12_looked_15 (LF_X12_looked n) x1 x2 σ
noncomputable def F_X12_looked (σ : Sg) : Int32 × Sg := fl (F_X12_save σ) (fun σ1 => fb (F_X12_goMinute σ1) (fun r3 σ2 => fl (F_X12_putBack σ2) (fun σ4 => LF_X12_looked 20 r3 (0 : Int32) σ4)))
noncomputable def F_X12_allStopped (a1 : Int32) (a2 : Int32) (a3 : Int32) (σ : Sg) : Int32 × Sg := fl (F_X12_save σ) (fun σ1 => fl (si σ1 108 a1.toNatClampNeg ((gi σ1 108 a1.toNatClampNeg) + a2)) (fun σ4 => fl (F_X12_goMinutes a3 σ4) (fun σ5 => fb (F_X12_all σ5) (fun r7 σ6 => fl (F_X12_putBack σ6) (fun σ8 => (r7, σ8))))))
noncomputable def LB_X12_rest_39 (rec : Int32 → Int32 → Int32 → Int32 → Int32 → Sg → Int32 × Sg) (x1 : Int32) (x2 : Int32) (x3 : Int32) (x4 : Int32) (x5 : Int32) (σ : Sg) : Int32 × Sg := (if (gi σ 74 0) ≤ x5 then (if x4 < 0 then (x4, σ) else (if x2 = 0 then (x4, σ) else (x3, σ))) else fb (F_X12_allStopped x5 (5 : Int32) x1 σ) (fun r5 σ4 => (if x3 < r5 then fl (x5 + 1) (fun v7 => rec x1 x2 r5 x5 v7 σ4) else fl (x5 + 1) (fun v8 => rec x1 x2 x3 x4 v8 σ4))))
noncomputable def LF_X12_rest : Nat → Int32 → Int32 → Int32 → Int32 → Int32 → Sg → Int32 × Sg
  | 0, _, _, _, _, _, σ => (0, σ)
  | n + 1, x1, x2, x3, x4, x5, σ => LB_X12_rest_39 (LF_X12_rest n) x1 x2 x3 x4 x5 σ
noncomputable def F_X12_rest (a1 : Int32) (a2 : Int32) (σ : Sg) : Int32 × Sg := fb (F_X12_in a2 (0 : Int32) (1 : Int32) σ) (fun r2 σ1 => (if r2 = 0 then ((-1 : Int32), σ1) else fb (F_X12_in a1 (1 : Int32) (60 : Int32) σ1) (fun r5 σ4 => (if r5 = 0 then ((-2 : Int32), σ4) else fb (F_X12_allBehind a1 σ4) (fun r8 σ7 => LF_X12_rest 20 a1 a2 r8 (-5 : Int32) (0 : Int32) σ7)))))
noncomputable def F_X12_isSeen (a1 : Int32) (a2 : Int32) (σ : Sg) : Int32 × Sg := fl (F_X12_save σ) (fun σ1 => fl (si σ1 108 a1.toNatClampNeg ((gi σ1 108 a1.toNatClampNeg) + (3 : Int32))) (fun σ4 => fl (F_X12_goMinutes (gi σ4 143 a2.toNatClampNeg) σ4) (fun σ6 => (if (gi σ6 105 (gi σ6 142 a2.toNatClampNeg).toNatClampNeg) = (gi σ6 144 a2.toNatClampNeg) then fl (F_X12_putBack σ6) (fun σ12 => ((1 : Int32), σ12)) else fl (F_X12_putBack σ6) (fun σ11 => ((0 : Int32), σ11))))))
noncomputable def LB_X12_whetted_6 (rec : Int32 → Int32 → Int32 → Sg → Int32 × Sg) (x1 : Int32) (x2 : Int32) (x3 : Int32) (σ : Sg) : Int32 × Sg := (if x1 < x3 then fb (F_X12_all σ) (fun r3 σ2 => fl (F_X12_putBack σ2) (fun σ4 => (r3, σ4))) else (if (16 : Int32) ≤ x2 then fl (F_X12_goMinutes (1 : Int32) σ) (fun σ6 => fl (x3 + 1) (fun v7 => rec x1 x2 v7 σ6)) else (if (x3 - x3 / x2 * x2) = 0 then fl (F_X12_goWhet σ) (fun σ12 => fl (x3 + 1) (fun v13 => rec x1 x2 v13 σ12)) else fl (F_X12_goMinutes (1 : Int32) σ) (fun σ10 => fl (x3 + 1) (fun v11 => rec x1 x2 v11 σ10)))))
noncomputable def LF_X12_whetted : Nat → Int32 → Int32 → Int32 → Sg → Int32 × Sg
  | 0, _, _, _, σ => (0, σ)
  | n + 1, x1, x2, x3, σ => LB_X12_whetted_6 (LF_X12_whetted n) x1 x2 x3 σ
noncomputable def F_X12_whetted (a1 : Int32) (a2 : Int32) (σ : Sg) : Int32 × Sg := fl (F_X12_save σ) (fun σ1 => LF_X12_whetted 90 a1 a2 (1 : Int32) σ1)
noncomputable def LB_X12_whets_34 (rec : Int32 → Int32 → Int32 → Int32 → Int32 → Sg → Int32 × Sg) (x1 : Int32) (x2 : Int32) (x3 : Int32) (x4 : Int32) (x5 : Int32) (σ : Sg) : Int32 × Sg := (if (17 : Int32) ≤ x5 then (if x2 = 0 then (x3, σ) else (x4, σ)) else fb (F_X12_whetted x1 x5 σ) (fun r4 σ3 => (if x4 < r4 then fl (x5 + 1) (fun v6 => rec x1 x2 x5 r4 v6 σ3) else fl (x5 + 1) (fun v7 => rec x1 x2 x3 x4 v7 σ3))))
noncomputable def LF_X12_whets : Nat → Int32 → Int32 → Int32 → Int32 → Int32 → Sg → Int32 × Sg
  | 0, _, _, _, _, _, σ => (0, σ)
  | n + 1, x1, x2, x3, x4, x5, σ => LB_X12_whets_34 (LF_X12_whets n) x1 x2 x3 x4 x5 σ
noncomputable def F_X12_whets (a1 : Int32) (a2 : Int32) (σ : Sg) : Int32 × Sg := fb (F_X12_in a2 (0 : Int32) (1 : Int32) σ) (fun r2 σ1 => (if r2 = 0 then ((-1 : Int32), σ1) else fb (F_X12_in a1 (1 : Int32) (60 : Int32) σ1) (fun r5 σ4 => (if r5 = 0 then ((-2 : Int32), σ4) else LF_X12_whets 20 a1 a2 (0 : Int32) (-1 : Int32) (1 : Int32) σ4))))
noncomputable def LB_X12_on_40 (rec : Int32 → Int32 → Sg → Int32 × Sg) (x1 : Int32) (x2 : Int32) (σ : Sg) : Int32 × Sg := fb (F_X12_in x1 (0 : Int32) (60 : Int32) σ) (fun r2 σ1 => (if r2 = 0 then ((-2 : Int32), σ1) else fl (F_X12_save σ1) (fun σ4 => fl (F_X12_goMinutes x1 σ4) (fun σ5 => (if x2 = 0 then fb (F_X12_all σ5) (fun r15 σ14 => fl (F_X12_putBack σ14) (fun σ16 => (r15, σ16))) else (if (20 : Int32) ≤ x2 then fl (gi σ5 132 (x2 - (20 : Int32)).toNatClampNeg) (fun v9 => fl (F_X12_putBack σ5) (fun σ10 => (v9, σ10))) else fl (gi σ5 105 (x2 - (10 : Int32)).toNatClampNeg) (fun v12 => fl (F_X12_putBack σ5) (fun σ13 => (v12, σ13)))))))))
noncomputable def LF_X12_on : Nat → Int32 → Int32 → Sg → Int32 × Sg
  | 0, _, _, σ => (0, σ)
  | n + 1, x1, x2, σ => LB_X12_on_40 (LF_X12_on n) x1 x2 σ
noncomputable def F_X12_on (a1 : Int32) (a2 : Int32) (σ : Sg) : Int32 × Sg := (if a2 = 0 then LF_X12_on 9 a1 a2 σ else fb (F_X12_in a2 (10 : Int32) ((9 : Int32) + (gi σ 74 0)) σ) (fun r3 σ2 => (if r3 = 0 then fb (F_X12_in a2 (20 : Int32) ((19 : Int32) + (gi σ2 74 0)) σ2) (fun r6 σ5 => (if r6 = 0 then ((-1 : Int32), σ5) else LF_X12_on 9 a1 a2 σ5)) else LF_X12_on 9 a1 a2 σ2)))
noncomputable def LB_X12_done_6 (rec : Nat → Int32 → Sg → Int32 × Sg) (x1 : Int32) (σ : Sg) : Int32 × Sg := (if (120 : Int32) < x1 then rec 1 x1 σ else fb (F_X12_isDone σ) (fun r3 σ2 => (if r3 = 0 then fl (F_X12_goMinutes (1 : Int32) σ2) (fun σ5 => fl (x1 + 1) (fun v6 => rec 0 v6 σ5)) else rec 1 x1 σ2)))
noncomputable def LB_X12_done_30 (rec : Nat → Int32 → Sg → Int32 × Sg) (x1 : Int32) (σ : Sg) : Int32 × Sg := fl (F_X12_putBack σ) (fun σ1 => (if (120 : Int32) < x1 then ((-5 : Int32), σ1) else (x1, σ1)))
noncomputable def LF_X12_done : Nat → Nat → Int32 → Sg → Int32 × Sg
  | 0, _, _, σ => (0, σ)
  | n + 1, 0, x1, σ => LB_X12_done_6 (LF_X12_done n) x1 σ
  | n + 1, 1, x1, σ => LB_X12_done_30 (LF_X12_done n) x1 σ
  | _ + 1, _ + 2, _, σ => (0, σ)
noncomputable def F_X12_done (σ : Sg) : Int32 × Sg := fl (F_X12_save σ) (fun σ1 => LF_X12_done 400 0 (0 : Int32) σ1)
noncomputable def LB_X12_stop_61 (rec : Nat → Int32 → Int32 → Int32 → Int32 → Int32 → Int32 → Int32 → Sg → Int32 × Sg) (x1 : Int32) (x2 : Int32) (x3 : Int32) (x4 : Int32) (x5 : Int32) (σ : Sg) : Int32 × Sg := (if (6 : Int32) ≤ x5 then fb (F_X12_all σ) (fun r3 σ2 => fl (F_X12_putBack σ2) (fun σ4 => fl (F_X12_save σ4) (fun σ5 => fl (si σ5 108 x1.toNatClampNeg ((gi σ5 108 x1.toNatClampNeg) + x2)) (fun σ8 => fl (F_X12_goMinutes x3 σ8) (fun σ9 => rec 1 x1 0 0 x4 r3 (0 : Int32) (0 : Int32) σ9))))) else fl (si σ 140 x5.toNatClampNeg (gi σ 105 x5.toNatClampNeg)) (fun σ12 => fl (x5 + 1) (fun v13 => rec 0 x1 x2 x3 x4 v13 0 0 σ12)))
noncomputable def LB_X12_stop_123 (rec : Nat → Int32 → Int32 → Int32 → Int32 → Int32 → Int32 → Int32 → Sg → Int32 × Sg) (x1 : Int32) (x4 : Int32) (x5 : Int32) (x6 : Int32) (x7 : Int32) (σ : Sg) : Int32 × Sg := (if (gi σ 74 0) ≤ x7 then fb (F_X12_all σ) (fun r3 σ2 => fl (F_X12_putBack σ2) (fun σ4 => (if x4 = 0 then (x5 - r3, σ4) else (x6, σ4)))) else (if x7 = x1 then fl (x6 ||| (0 : Int32)) (fun v7 => fl (x7 + 1) (fun v8 => rec 1 x1 0 0 x4 x5 v7 v8 σ)) else (if (gi σ 140 x7.toNatClampNeg) ≤ (gi σ 105 x7.toNatClampNeg) then fl (x6 ||| (0 : Int32)) (fun v12 => fl (x7 + 1) (fun v13 => rec 1 x1 0 0 x4 x5 v12 v13 σ)) else fl (x6 ||| ((1 : Int32) <<< (x7 &&& 31))) (fun v14 => fl (x7 + 1) (fun v15 => rec 1 x1 0 0 x4 x5 v14 v15 σ)))))
noncomputable def LF_X12_stop : Nat → Nat → Int32 → Int32 → Int32 → Int32 → Int32 → Int32 → Int32 → Sg → Int32 × Sg
  | 0, _, _, _, _, _, _, _, _, σ => (0, σ)
  | n + 1, 0, x1, x2, x3, x4, x5, _, _, σ => LB_X12_stop_61 (LF_X12_stop n) x1 x2 x3 x4 x5 σ
  | n + 1, 1, x1, _, _, x4, x5, x6, x7, σ => LB_X12_stop_123 (LF_X12_stop n) x1 x4 x5 x6 x7 σ
  | _ + 1, _ + 2, _, _, _, _, _, _, _, σ => (0, σ)
noncomputable def F_X12_stop (a1 : Int32) (a2 : Int32) (a3 : Int32) (a4 : Int32) (σ : Sg) : Int32 × Sg := fb (F_X12_isMower a1 σ) (fun r2 σ1 => (if r2 = 0 then ((-100001 : Int32), σ1) else fb (F_X12_in a4 (0 : Int32) (1 : Int32) σ1) (fun r5 σ4 => (if r5 = 0 then ((-100001 : Int32), σ4) else fb (F_X12_in a2 (1 : Int32) (20 : Int32) σ4) (fun r8 σ7 => (if r8 = 0 then ((-100002 : Int32), σ7) else fb (F_X12_in a3 (1 : Int32) (60 : Int32) σ7) (fun r11 σ10 => (if r11 = 0 then ((-100002 : Int32), σ10) else fl (F_X12_save σ10) (fun σ13 => fl (F_X12_goMinutes a3 σ13) (fun σ14 => LF_X12_stop 60 0 a1 a2 a3 a4 (0 : Int32) 0 0 σ14))))))))))
noncomputable def LB_X12_paused_34 (rec : Int32 → Int32 → Int32 → Int32 → Int32 → Sg → Int32 × Sg) (x1 : Int32) (x2 : Int32) (x3 : Int32) (x4 : Int32) (x5 : Int32) (σ : Sg) : Int32 × Sg := (if x1 < x5 then (if x2 = 0 then (x3, σ) else (x4, σ)) else fl (F_X12_save σ) (fun σ3 => fl (F_X12_goMinutes x5 σ3) (fun σ4 => fl (F_X12_goPause (5 : Int32) σ4) (fun σ5 => fl (F_X12_goMinutes (x1 - x5) σ5) (fun σ6 => fb (F_X12_all σ6) (fun r8 σ7 => fl (F_X12_putBack σ7) (fun σ9 => (if x4 < r8 then fl (x5 + 1) (fun v11 => rec x1 x2 x5 r8 v11 σ9) else fl (x5 + 1) (fun v12 => rec x1 x2 x3 x4 v12 σ9)))))))))
noncomputable def LF_X12_paused : Nat → Int32 → Int32 → Int32 → Int32 → Int32 → Sg → Int32 × Sg
  | 0, _, _, _, _, _, σ => (0, σ)
  | n + 1, x1, x2, x3, x4, x5, σ => LB_X12_paused_34 (LF_X12_paused n) x1 x2 x3 x4 x5 σ
noncomputable def F_X12_paused (a1 : Int32) (a2 : Int32) (σ : Sg) : Int32 × Sg := fb (F_X12_in a2 (0 : Int32) (1 : Int32) σ) (fun r2 σ1 => (if r2 = 0 then ((-1 : Int32), σ1) else fb (F_X12_in a1 (1 : Int32) (30 : Int32) σ1) (fun r5 σ4 => (if r5 = 0 then ((-2 : Int32), σ4) else LF_X12_paused 60 a1 a2 (0 : Int32) (-1 : Int32) (0 : Int32) σ4))))
noncomputable def LB_X12_who_4 (rec : Nat → Int32 → Int32 → Int32 → Int32 → Sg → Int32 × Sg) (x1 : Int32) (x2 : Int32) (σ : Sg) : Int32 × Sg := (if (gi σ 74 0) ≤ x2 then (x1, σ) else rec 1 x1 x2 (1 : Int32) (0 : Int32) σ)
noncomputable def LB_X12_who_17 (rec : Nat → Int32 → Int32 → Int32 → Int32 → Sg → Int32 × Sg) (x1 : Int32) (x2 : Int32) (x3 : Int32) (x4 : Int32) (σ : Sg) : Int32 × Sg := (if (gi σ 74 41) ≤ x4 then rec 2 x1 x2 x3 0 σ else (if x3 = 0 then rec 2 x1 x2 x3 0 σ else fb (F_X12_isSeen x2 x4 σ) (fun r4 σ3 => fl (x4 + 1) (fun v5 => rec 1 x1 x2 r4 v5 σ3))))
noncomputable def LB_X12_who_44 (rec : Nat → Int32 → Int32 → Int32 → Int32 → Sg → Int32 × Sg) (x1 : Int32) (x2 : Int32) (x3 : Int32) (σ : Sg) : Int32 × Sg := (if x3 = 0 then fl (x1 ||| (0 : Int32)) (fun v2 => fl (x2 + 1) (fun v3 => rec 0 v2 v3 0 0 σ)) else fl (x1 ||| ((1 : Int32) <<< (x2 &&& 31))) (fun v4 => fl (x2 + 1) (fun v5 => rec 0 v4 v5 0 0 σ)))
noncomputable def LF_X12_who : Nat → Nat → Int32 → Int32 → Int32 → Int32 → Sg → Int32 × Sg
  | 0, _, _, _, _, _, σ => (0, σ)
  | n + 1, 0, x1, x2, _, _, σ => LB_X12_who_4 (LF_X12_who n) x1 x2 σ
  | n + 1, 1, x1, x2, x3, x4, σ => LB_X12_who_17 (LF_X12_who n) x1 x2 x3 x4 σ
  | n + 1, 2, x1, x2, x3, _, σ => LB_X12_who_44 (LF_X12_who n) x1 x2 x3 σ
  | _ + 1, _ + 3, _, _, _, _, σ => (0, σ)
noncomputable def F_X12_who (σ : Sg) : Int32 × Sg := LF_X12_who 2000 0 (0 : Int32) (0 : Int32) 0 0 σ
noncomputable def LB_X12_planned_6 (rec : Nat → Int32 → Sg → Int32 × Sg) (x1 : Int32) (σ : Sg) : Int32 × Sg := (if (gi σ 74 45) ≤ x1 then fb (F_X12_all σ) (fun r3 σ2 => fl (F_X12_putBack σ2) (fun σ4 => (r3, σ4))) else (if (gi σ 147 x1.toNatClampNeg) = 0 then fl (F_X12_goMinutes (1 : Int32) σ) (fun σ10 => (if (gi σ10 147 x1.toNatClampNeg) = (1 : Int32) then fl (F_X12_goWhet σ10) (fun σ13 => rec 1 x1 σ13) else rec 1 x1 σ10)) else (if (gi σ 147 x1.toNatClampNeg) = (1 : Int32) then fl (F_X12_goWhet σ) (fun σ9 => rec 1 x1 σ9) else rec 1 x1 σ)))
noncomputable def LB_X12_planned_42 (rec : Nat → Int32 → Sg → Int32 × Sg) (x1 : Int32) (σ : Sg) : Int32 × Sg := (if (gi σ 147 x1.toNatClampNeg) = (2 : Int32) then fl (F_X12_goPause (1 : Int32) σ) (fun σ4 => fl (x1 + 1) (fun v5 => rec 0 v5 σ4)) else fl (x1 + 1) (fun v3 => rec 0 v3 σ))
noncomputable def LF_X12_planned : Nat → Nat → Int32 → Sg → Int32 × Sg
  | 0, _, _, σ => (0, σ)
  | n + 1, 0, x1, σ => LB_X12_planned_6 (LF_X12_planned n) x1 σ
  | n + 1, 1, x1, σ => LB_X12_planned_42 (LF_X12_planned n) x1 σ
  | _ + 1, _ + 2, _, σ => (0, σ)
noncomputable def F_X12_planned (σ : Sg) : Int32 × Sg := fl (F_X12_save σ) (fun σ1 => LF_X12_planned 300 0 (0 : Int32) σ1)
noncomputable def F_X12_told (a1 : Int32) (σ : Sg) : Int32 × Sg := fb (F_X12_in a1 (10 : Int32) ((9 : Int32) + (gi σ 74 0)) σ) (fun r2 σ1 => (if r2 = 0 then (if a1.toInt = 0 then (gi σ1 74 1, σ1) else (if a1.toInt = 1 then fb (F_X12_gap σ1) (fun r6 σ5 => (r6, σ5)) else (if a1.toInt = 2 then fb (F_X12_lastOf (3 : Int32) (1 : Int32) σ1) (fun r8 σ7 => (r8, σ7)) else (if a1.toInt = 3 then fb (F_X12_fieldLong σ1) (fun r10 σ9 => (r10, σ9)) else ((-1 : Int32), σ1))))) else (gi σ1 110 (a1 - (10 : Int32)).toNatClampNeg, σ1)))
noncomputable def LB_X12_judge_34 (rec : Int32 → Int32 → Int32 → Sg → Int32 × Sg) (x1 : Int32) (x2 : Int32) (x3 : Int32) (σ : Sg) : Int32 × Sg := (if (gi σ 74 0) ≤ x3 then ((-5 : Int32), σ) else (if (gi σ 171 x1.toNatClampNeg) < 0 then ((100 : Int32) + x3, σ) else (if x2 < 0 then ((100 : Int32) + x3, σ) else (if x2 ≤ (((gi σ 172 x1.toNatClampNeg) - x3) - (1 : Int32)) then (if (lg_cmp (gl σ 173 ((((60 : Int32) * x1) + x2) + x3).toNatClampNeg) ((gi σ 105 x3.toNatClampNeg).toInt64)) = 0 then fl (x3 + 1) (fun v10 => rec x1 x2 v10 σ) else (x3, σ)) else ((100 : Int32) + x3, σ)))))
noncomputable def LF_X12_judge : Nat → Int32 → Int32 → Int32 → Sg → Int32 × Sg
  | 0, _, _, _, σ => (0, σ)
  | n + 1, x1, x2, x3, σ => LB_X12_judge_34 (LF_X12_judge n) x1 x2 x3 σ
noncomputable def F_X12_judge (a1 : Int32) (a2 : Int32) (σ : Sg) : Int32 × Sg := fb (F_X12_isTape a1 σ) (fun r2 σ1 => (if r2 = 0 then ((-1 : Int32), σ1) else (if (gi σ1 171 a1.toNatClampNeg) < 0 then LF_X12_judge 20 a1 a2 (0 : Int32) σ1 else (if (gi σ1 171 a1.toNatClampNeg) = (1 : Int32) then LF_X12_judge 20 a1 a2 (0 : Int32) σ1 else ((-12 : Int32), σ1)))))
noncomputable def LB_X12_fromTheStart_6 (rec : Int32 → Int32 → Sg → Int32 × Sg) (x1 : Int32) (x2 : Int32) (σ : Sg) : Int32 × Sg := (if (gi σ 74 0) ≤ x2 then fl (F_X12_goMinutes x1 σ) (fun σ2 => fb (F_X12_all σ2) (fun r4 σ3 => fl (F_X12_putBack σ3) (fun σ5 => (r4, σ5)))) else fl (si σ 105 x2.toNatClampNeg (0 : Int32)) (fun σ7 => fl (x2 + 1) (fun v8 => rec x1 v8 σ7)))
noncomputable def LF_X12_fromTheStart : Nat → Int32 → Int32 → Sg → Int32 × Sg
  | 0, _, _, σ => (0, σ)
  | n + 1, x1, x2, σ => LB_X12_fromTheStart_6 (LF_X12_fromTheStart n) x1 x2 σ
noncomputable def F_X12_fromTheStart (a1 : Int32) (σ : Sg) : Int32 × Sg := fl (F_X12_save σ) (fun σ1 => LF_X12_fromTheStart 20 a1 (0 : Int32) σ1)
noncomputable def LB_X12_aloneBehind_6 (rec : Nat → Int32 → Int32 → Int32 → Int32 → Sg → Int32 × Sg) (x1 : Int32) (x2 : Int32) (x3 : Int32) (σ : Sg) : Int32 × Sg := (if (6 : Int32) ≤ x3 then fl (si σ 110 (0 : Int32).toNatClampNeg x1) (fun σ3 => fl (si σ3 74 2 (1 : Int32)) (fun σ4 => fl (F_X12_goMinutes x2 σ4) (fun σ5 => fl (gi σ5 105 x1.toNatClampNeg) (fun v7 => rec 1 0 0 v7 (0 : Int32) σ5)))) else fl (si σ 138 x3.toNatClampNeg (gi σ 110 x3.toNatClampNeg)) (fun σ10 => fl (x3 + 1) (fun v11 => rec 0 x1 x2 v11 0 σ10)))
noncomputable def LB_X12_aloneBehind_57 (rec : Nat → Int32 → Int32 → Int32 → Int32 → Sg → Int32 × Sg) (x3 : Int32) (x4 : Int32) (σ : Sg) : Int32 × Sg := (if (6 : Int32) ≤ x4 then fl (si σ 74 2 (gi σ 74 0)) (fun σ2 => fl (F_X12_putBack σ2) (fun σ3 => (x3, σ3))) else fl (si σ 110 x4.toNatClampNeg (gi σ 138 x4.toNatClampNeg)) (fun σ6 => fl (x4 + 1) (fun v7 => rec 1 0 0 x3 v7 σ6)))
noncomputable def LF_X12_aloneBehind : Nat → Nat → Int32 → Int32 → Int32 → Int32 → Sg → Int32 × Sg
  | 0, _, _, _, _, _, σ => (0, σ)
  | n + 1, 0, x1, x2, x3, _, σ => LB_X12_aloneBehind_6 (LF_X12_aloneBehind n) x1 x2 x3 σ
  | n + 1, 1, _, _, x3, x4, σ => LB_X12_aloneBehind_57 (LF_X12_aloneBehind n) x3 x4 σ
  | _ + 1, _ + 2, _, _, _, _, σ => (0, σ)
noncomputable def F_X12_aloneBehind (a1 : Int32) (a2 : Int32) (σ : Sg) : Int32 × Sg := fl (F_X12_save σ) (fun σ1 => LF_X12_aloneBehind 60 0 a1 a2 (0 : Int32) 0 σ1)
noncomputable def LB_X12_alone_23 (rec : Int32 → Int32 → Int32 → Sg → Int32 × Sg) (x1 : Int32) (x2 : Int32) (x3 : Int32) (σ : Sg) : Int32 × Sg := (if (gi σ 74 0) ≤ x3 then (x2, σ) else fb (F_X12_aloneBehind x3 x1 σ) (fun r3 σ2 => fl (x2 - r3) (fun v4 => fl (x3 + 1) (fun v5 => rec x1 v4 v5 σ2))))
noncomputable def LF_X12_alone : Nat → Int32 → Int32 → Int32 → Sg → Int32 × Sg
  | 0, _, _, _, σ => (0, σ)
  | n + 1, x1, x2, x3, σ => LB_X12_alone_23 (LF_X12_alone n) x1 x2 x3 σ
noncomputable def F_X12_alone (a1 : Int32) (σ : Sg) : Int32 × Sg := fb (F_X12_in a1 (1 : Int32) (60 : Int32) σ) (fun r2 σ1 => (if r2 = 0 then ((-100002 : Int32), σ1) else fb (F_X12_allBehind a1 σ1) (fun r5 σ4 => LF_X12_alone 20 a1 r5 (0 : Int32) σ4)))
noncomputable def LB_X12_divisor_5 (rec : Int32 → Int32 → Sg → Int32 × Sg) (x3 : Int32) (x4 : Int32) (σ : Sg) : Int32 × Sg := (if x4 = 0 then (x3, σ) else fl (x3 - x3 / x4 * x4) (fun v3 => rec x4 v3 σ))
noncomputable def LF_X12_divisor : Nat → Int32 → Int32 → Sg → Int32 × Sg
  | 0, _, _, σ => (0, σ)
  | n + 1, x3, x4, σ => LB_X12_divisor_5 (LF_X12_divisor n) x3 x4 σ
noncomputable def F_X12_divisor (a1 : Int32) (a2 : Int32) (σ : Sg) : Int32 × Sg := LF_X12_divisor 20 a1 a2 σ
noncomputable def F_X12_lowest (a1 : Int32) (a2 : Int32) (a3 : Int32) (σ : Sg) : Int64 × Sg := fb (F_X12_divisor a1 a2 σ) (fun r2 σ1 => (if a3 = 0 then ((a1 / r2).toInt64, σ1) else ((a2 / r2).toInt64, σ1)))
noncomputable def LB_X12_odds_39 (rec : Int32 → Int32 → Int32 → Int32 → Int32 → Sg → Int64 × Sg) (x1 : Int32) (x2 : Int32) (x3 : Int32) (x4 : Int32) (x5 : Int32) (σ : Sg) : Int64 × Sg := (if (gi σ 74 0) ≤ x5 then fb (F_X12_lowest x4 (gi σ 74 0) x3 σ) (fun r3 σ2 => (r3, σ2)) else fl (F_X12_save σ) (fun σ4 => fl (si σ4 108 x5.toNatClampNeg ((gi σ4 108 x5.toNatClampNeg) + (5 : Int32))) (fun σ7 => fl (F_X12_goMinutes x2 σ7) (fun σ8 => (if (gi σ8 132 x1.toNatClampNeg) ≤ 0 then fl (x4 + (0 : Int32)) (fun v11 => fl (F_X12_putBack σ8) (fun σ12 => fl (x5 + 1) (fun v13 => rec x1 x2 x3 v11 v13 σ12))) else fl (x4 + (1 : Int32)) (fun v14 => fl (F_X12_putBack σ8) (fun σ15 => fl (x5 + 1) (fun v16 => rec x1 x2 x3 v14 v16 σ15))))))))
noncomputable def LF_X12_odds : Nat → Int32 → Int32 → Int32 → Int32 → Int32 → Sg → Int64 × Sg
  | 0, _, _, _, _, _, σ => (0, σ)
  | n + 1, x1, x2, x3, x4, x5, σ => LB_X12_odds_39 (LF_X12_odds n) x1 x2 x3 x4 x5 σ
noncomputable def F_X12_odds (a1 : Int32) (a2 : Int32) (a3 : Int32) (σ : Sg) : Int64 × Sg := fb (F_X12_isMower a1 σ) (fun r2 σ1 => (if r2 = 0 then ((-9223372036854775808 : Int64), σ1) else fb (F_X12_in a2 (1 : Int32) (60 : Int32) σ1) (fun r5 σ4 => (if r5 = 0 then ((-9223372036854775808 : Int64), σ4) else fb (F_X12_in a3 (0 : Int32) (1 : Int32) σ4) (fun r8 σ7 => (if r8 = 0 then ((-9223372036854775808 : Int64), σ7) else LF_X12_odds 20 a1 a2 a3 (0 : Int32) (0 : Int32) σ7))))))
noncomputable def F_X12_mean (a1 : Int32) (a2 : Int32) (σ : Sg) : Int64 × Sg := fb (F_X12_in a1 (1 : Int32) (60 : Int32) σ) (fun r2 σ1 => (if r2 = 0 then ((-9223372036854775808 : Int64), σ1) else fb (F_X12_in a2 (0 : Int32) (1 : Int32) σ1) (fun r5 σ4 => (if r5 = 0 then ((-9223372036854775808 : Int64), σ4) else (if (gi σ4 74 0) = 0 then ((-9223372036854775808 : Int64), σ4) else fb (F_X12_allBehind a1 σ4) (fun r9 σ8 => fb (F_X12_lowest r9 (gi σ8 74 0) a2 σ8) (fun r11 σ10 => (r11, σ10))))))))
noncomputable def F_X12_of (a1 : Int32) (a2 : Int32) (σ : Sg) : Int32 × Sg := fb (F_X12_isMower a1 σ) (fun r2 σ1 => (if r2 = 0 then ((-1 : Int32), σ1) else (if a2.toInt = 0 then (gi σ1 103 a1.toNatClampNeg, σ1) else (if a2.toInt = 1 then (gi σ1 104 a1.toNatClampNeg, σ1) else (if a2.toInt = 2 then (gi σ1 105 a1.toNatClampNeg, σ1) else (if a2.toInt = 3 then (gi σ1 106 a1.toNatClampNeg, σ1) else (if a2.toInt = 4 then (gi σ1 107 a1.toNatClampNeg, σ1) else (if a2.toInt = 5 then (gi σ1 108 a1.toNatClampNeg, σ1) else (if a2.toInt = 6 then fb (F_X12_placeOf a1 σ1) (fun r12 σ11 => (r12, σ11)) else (if a2.toInt = 7 then fb (F_X12_placeOf a1 σ1) (fun r14 σ13 => fb (F_X12_paceAt r14 σ13) (fun r16 σ15 => (r16, σ15))) else (if a2.toInt = 8 then fb (F_X12_placeOf a1 σ1) (fun r18 σ17 => fb (F_X12_strideAt r18 σ17) (fun r20 σ19 => (r20, σ19))) else ((-1 : Int32), σ1))))))))))))
noncomputable def LB_X2_holds_6 (c0 : Nat) (a3 : Nat) (rec : Nat → Int32 → Int32 → Int32 → Int32 → Sg → Int32 × Sg) (x2 : Int32) (x4 : Int32) (x5 : Int32) (σ : Sg) : Int32 × Sg := (if x2 ≤ x5 then rec 1 0 x4 0 0 σ else (if (gi σ c0 4) ≤ x5 then rec 1 0 x4 0 0 σ else fl (gi σ (c0 + 1) x5.toNatClampNeg) (fun v4 => (if v4 < 0 then (if v4 = (-1 : Int32) then fl (x4 ^^^ (1 : Int32)) (fun v14 => fl (x5 + 1) (fun v15 => rec 0 x2 v14 v15 0 σ)) else fl (x4 &&& (1 : Int32)) (fun v7 => fl (x4 >>> ((1 : Int32) &&& 31)) (fun v8 => (if v4 = (-3 : Int32) then fl (v8 ||| v7) (fun v12 => fl (x5 + 1) (fun v13 => rec 0 x2 v12 v13 0 σ)) else fl (v8 &&& ((-2 : Int32) ||| v7)) (fun v10 => fl (x5 + 1) (fun v11 => rec 0 x2 v10 v11 0 σ)))))) else fl ((gi σ a3 (v4 / (300 : Int32)).toNatClampNeg) - (v4 - v4 / (100 : Int32) * (100 : Int32))) (fun v17 => fl ((v4 / (100 : Int32)) - (v4 / (100 : Int32)) / (3 : Int32) * (3 : Int32)) (fun v18 => (if v18 = 0 then (if 0 ≤ v17 then rec 2 x2 x4 x5 (0 : Int32) σ else rec 2 x2 x4 x5 (1 : Int32) σ) else (if v18 = (1 : Int32) then (if v17 = 0 then rec 2 x2 x4 x5 (1 : Int32) σ else rec 2 x2 x4 x5 (0 : Int32) σ) else (if v17 ≤ 0 then rec 2 x2 x4 x5 (0 : Int32) σ else rec 2 x2 x4 x5 (1 : Int32) σ)))))))))
noncomputable def LB_X2_holds_187 (c0 : Nat) (a3 : Nat) (rec : Nat → Int32 → Int32 → Int32 → Int32 → Sg → Int32 × Sg) (x4 : Int32) (σ : Sg) : Int32 × Sg := (if (x4 &&& (1 : Int32)) = (1 : Int32) then ((1 : Int32), σ) else ((0 : Int32), σ))
noncomputable def LB_X2_holds_107 (c0 : Nat) (a3 : Nat) (rec : Nat → Int32 → Int32 → Int32 → Int32 → Sg → Int32 × Sg) (x2 : Int32) (x4 : Int32) (x5 : Int32) (z0 : Int32) (σ : Sg) : Int32 × Sg := (if z0 = 0 then fl ((x4 <<< ((1 : Int32) &&& 31)) ||| (0 : Int32)) (fun v2 => fl (x5 + 1) (fun v3 => rec 0 x2 v2 v3 0 σ)) else fl ((x4 <<< ((1 : Int32) &&& 31)) ||| (1 : Int32)) (fun v4 => fl (x5 + 1) (fun v5 => rec 0 x2 v4 v5 0 σ)))
noncomputable def LF_X2_holds (c0 : Nat) (a3 : Nat) : Nat → Nat → Int32 → Int32 → Int32 → Int32 → Sg → Int32 × Sg
  | 0, _, _, _, _, _, σ => (0, σ)
  | n + 1, 0, x2, x4, x5, _, σ => LB_X2_holds_6 c0 a3 (LF_X2_holds c0 a3 n) x2 x4 x5 σ
  | n + 1, 1, _, x4, _, _, σ => LB_X2_holds_187 c0 a3 (LF_X2_holds c0 a3 n) x4 σ
  | n + 1, 2, x2, x4, x5, z0, σ => LB_X2_holds_107 c0 a3 (LF_X2_holds c0 a3 n) x2 x4 x5 z0 σ
  | _ + 1, _ + 3, _, _, _, _, σ => (0, σ)
noncomputable def F_X2_holds (c0 : Nat) (a1 : Int32) (a2 : Int32) (a3 : Nat) (σ : Sg) : Int32 × Sg := LF_X2_holds c0 a3 900 0 a2 (0 : Int32) a1 0 σ
noncomputable def LB_X2_paceOf_8 (c0 : Nat) (a1 : Nat) (rec : Nat → Int32 → Int32 → Int32 → Int32 → Int32 → Sg → Int32 × Sg) (x2 : Int32) (x3 : Int32) (x4 : Int32) (σ : Sg) : Int32 × Sg := (if (gi σ c0 8) ≤ x4 then (if x2 ≤ 0 then ((0 : Int32), σ) else (x2, σ)) else (if (1 : Int32) < (gi σ (c0 + 2) x4.toNatClampNeg) then fl (gi σ (c0 + 4) x4.toNatClampNeg) (fun v6 => fl (x4 + 1) (fun v7 => rec 0 x2 v6 v7 0 0 σ)) else fb (F_X2_holds c0 x3 (gi σ (c0 + 4) x4.toNatClampNeg) a1 σ) (fun r10 σ9 => (if r10 = 0 then fl (gi σ9 (c0 + 4) x4.toNatClampNeg) (fun v13 => fl (x4 + 1) (fun v14 => rec 0 x2 v13 v14 0 0 σ9)) else (if (gi σ9 (c0 + 2) x4.toNatClampNeg) = 0 then rec 1 0 0 x4 (gi σ9 (c0 + 3) x4.toNatClampNeg) x2 σ9 else rec 1 0 0 x4 (-(gi σ9 (c0 + 3) x4.toNatClampNeg)) x2 σ9)))))
noncomputable def LB_X2_paceOf_73 (c0 : Nat) (a1 : Nat) (rec : Nat → Int32 → Int32 → Int32 → Int32 → Int32 → Sg → Int32 × Sg) (x4 : Int32) (z0 : Int32) (z1 : Int32) (σ : Sg) : Int32 × Sg := fl (z1 + z0) (fun v1 => fl (gi σ (c0 + 4) x4.toNatClampNeg) (fun v3 => fl (x4 + 1) (fun v4 => rec 0 v1 v3 v4 0 0 σ)))
noncomputable def LF_X2_paceOf (c0 : Nat) (a1 : Nat) : Nat → Nat → Int32 → Int32 → Int32 → Int32 → Int32 → Sg → Int32 × Sg
  | 0, _, _, _, _, _, _, σ => (0, σ)
  | n + 1, 0, x2, x3, x4, _, _, σ => LB_X2_paceOf_8 c0 a1 (LF_X2_paceOf c0 a1 n) x2 x3 x4 σ
  | n + 1, 1, _, _, x4, z0, z1, σ => LB_X2_paceOf_73 c0 a1 (LF_X2_paceOf c0 a1 n) x4 z0 z1 σ
  | _ + 1, _ + 2, _, _, _, _, _, σ => (0, σ)
noncomputable def F_X2_paceOf (c0 : Nat) (a1 : Nat) (σ : Sg) : Int32 × Sg := LF_X2_paceOf c0 a1 900 0 (6 : Int32) (0 : Int32) (0 : Int32) 0 0 σ
noncomputable def F_X4_strides (c0 : Nat) (a1 : Int32) (a2 : Nat) (a3 : Int32) (σ : Sg) : Int32 × Sg := fl ((gi σ (a2 + 5) (gi σ c0 1).toNatClampNeg) / (20 : Int32)) (fun v2 => (if a1 ≤ v2 then ((0 : Int32), σ) else (a1 - v2, σ)))
noncomputable def F_X8_strides (c0 : Nat) (a1 : Int32) (a2 : Nat) (a3 : Int32) (σ : Sg) : Int32 × Sg := (a1, σ)
noncomputable def F_X3_strides (c0 : Nat) (a1 : Int32) (a2 : Nat) (a3 : Int32) (σ : Sg) : Int32 × Sg := fb (F_X4_strides c0 a1 a2 a3 σ) (fun r3 σ2 => (if (gi σ2 (a2 + 4) (gi σ2 c0 1).toNatClampNeg) ≤ (5 : Int32) then (r3 + (0 : Int32), σ2) else (r3 + (gi σ2 c0 2), σ2)))
noncomputable def F_X0_strides (c0 : Nat) (a1 : Int32) (a2 : Nat) (a3 : Int32) (σ : Sg) : Int32 × Sg := fb (F_X4_strides c0 a1 a2 a3 σ) (fun r3 σ2 => (r3 / (2 : Int32), σ2))
noncomputable def F_X6_strides (c0 : Nat) (a1 : Int32) (a2 : Nat) (a3 : Int32) (σ : Sg) : Int32 × Sg := fb (F_X8_strides c0 a1 a2 a3 σ) (fun r3 σ2 => fl (r3 - ((gi σ2 c0 2) / (3 : Int32))) (fun v4 => (if v4 ≤ 0 then ((0 : Int32), σ2) else (v4, σ2))))
noncomputable def F_X1_gap (c0 : Nat) (σ : Sg) : Int32 × Sg := (if (gi σ c0 11) < 0 then fop (gr σ c0 10) ((0, σ)) (fun f2 => (gi σ f2 0, σ)) else (gi σ c0 11, σ))
noncomputable def F_X1_isPressedAt (c0 : Nat) (a1 : Int32) (σ : Sg) : Int32 × Sg := (if (gi σ c0 3) ≤ (a1 + (1 : Int32)) then ((0 : Int32), σ) else fb (F_X1_gap c0 σ) (fun r7 σ6 => (if (r7 + (3 : Int32)) ≤ ((gi σ (c0 + 3) (gi σ (c0 + 2) a1.toNatClampNeg).toNatClampNeg) - (gi σ (c0 + 3) (gi σ (c0 + 2) (a1 + (1 : Int32)).toNatClampNeg).toNatClampNeg)) then ((0 : Int32), σ6) else ((1 : Int32), σ6))))
noncomputable def F_X7_strides (c0 : Nat) (a1 : Int32) (a2 : Nat) (a3 : Int32) (σ : Sg) : Int32 × Sg := fb (F_X3_strides c0 a1 a2 a3 σ) (fun r3 σ2 => fb (F_X1_isPressedAt a2 a3 σ2) (fun r5 σ4 => (if r5 = 0 then (r3 + (0 : Int32), σ4) else (r3 + (2 : Int32), σ4))))
noncomputable def F_X10_strides (c0 : Nat) (a1 : Int32) (a2 : Nat) (a3 : Int32) (σ : Sg) : Int32 × Sg := fb (F_X0_strides c0 a1 a2 a3 σ) (fun r3 σ2 => (r3 + (gi σ2 (a2 + 7) (((4 : Int32) * (gi σ2 c0 1)) + ((gi σ2 a2 9) - (gi σ2 a2 9) / (4 : Int32) * (4 : Int32))).toNatClampNeg), σ2))
noncomputable def F_KD_strides (ci : Nat) (c0 : Nat) (a1 : Int32) (a2 : Nat) (a3 : Int32) (σ : Sg) : Int32 × Sg := (if ci = 0 then F_X0_strides c0 a1 a2 a3 σ else (if ci = 3 then F_X3_strides c0 a1 a2 a3 σ else (if ci = 4 then F_X4_strides c0 a1 a2 a3 σ else (if ci = 6 then F_X6_strides c0 a1 a2 a3 σ else (if ci = 7 then F_X7_strides c0 a1 a2 a3 σ else (if ci = 8 then F_X8_strides c0 a1 a2 a3 σ else (if ci = 10 then F_X10_strides c0 a1 a2 a3 σ else (0, σ))))))))
noncomputable def F_X1_numbersOf (c0 : Nat) (a1 : Int32) (σ : Sg) : Nat × Sg := (if a1.toInt = 0 then ((c0 + 3), σ) else (if a1.toInt = 1 then ((c0 + 4), σ) else (if a1.toInt = 2 then ((c0 + 5), σ) else ((c0 + 6), σ))))
noncomputable def F_X1_paceAt (c0 : Nat) (a1 : Int32) (σ : Sg) : Int32 × Sg := fl (gi σ (c0 + 2) a1.toNatClampNeg) (fun v2 => fl (si σ (c0 + 15) (0 : Int32).toNatClampNeg v2) (fun σ4 => fm (gr σ4 (c0 + 1) v2.toNatClampNeg) ((0, σ)) (fun μ6 ci6 => fl (si σ4 (c0 + 15) (1 : Int32).toNatClampNeg (gi σ4 μ6 0)) (fun σ8 => fl (si σ8 (c0 + 15) (2 : Int32).toNatClampNeg a1) (fun σ10 => fl (si σ10 (c0 + 15) (3 : Int32).toNatClampNeg (gi σ10 (c0 + 4) v2.toNatClampNeg)) (fun σ13 => fl (si σ13 (c0 + 15) (4 : Int32).toNatClampNeg ((gi σ13 (c0 + 5) v2.toNatClampNeg) / (10 : Int32))) (fun σ16 => fl (si σ16 (c0 + 15) (5 : Int32).toNatClampNeg ((gi σ16 c0 9) - (gi σ16 c0 9) / (10 : Int32) * (10 : Int32))) (fun σ18 => fop (gr σ18 c0 10) ((0, σ)) (fun f19 => fb (F_X2_paceOf f19 (c0 + 15) σ18) (fun r21 σ20 => (r21, σ20)))))))))))
noncomputable def F_X1_strideAt (c0 : Nat) (a1 : Int32) (σ : Sg) : Int32 × Sg := fl (gi σ (c0 + 2) a1.toNatClampNeg) (fun v2 => fm (gr σ (c0 + 1) v2.toNatClampNeg) ((0, σ)) (fun μ4 ci4 => fb (F_X1_paceAt c0 a1 σ) (fun r6 σ5 => fb (F_KD_strides ci4 μ4 r6 c0 a1 σ5) (fun r8 σ7 => (if (gi σ7 (c0 + 4) v2.toNatClampNeg) = 0 then (r8 / (2 : Int32), σ7) else (r8, σ7))))))
noncomputable def LB_X1_roomAt_54 (c0 : Nat) (rec : Int32 → Int32 → Sg → Int32 × Sg) (x2 : Int32) (x3 : Int32) (σ : Sg) : Int32 × Sg := fl (jmax (0 : Int32) (x3 - (gi σ (c0 + 3) x2.toNatClampNeg))) (fun v2 => (v2, σ))
noncomputable def LF_X1_roomAt (c0 : Nat) : Nat → Int32 → Int32 → Sg → Int32 × Sg
  | 0, _, _, σ => (0, σ)
  | n + 1, x2, x3, σ => LB_X1_roomAt_54 c0 (LF_X1_roomAt c0 n) x2 x3 σ
noncomputable def F_X1_roomAt (c0 : Nat) (a1 : Int32) (σ : Sg) : Int32 × Sg := fl (gi σ (c0 + 2) a1.toNatClampNeg) (fun v2 => fl (jmin ((gi σ (c0 + 3) v2.toNatClampNeg) + (gi σ (c0 + 14) a1.toNatClampNeg)) (9999 : Int32)) (fun v5 => (if a1 ≤ 0 then LF_X1_roomAt c0 9 v2 v5 σ else fb (F_X1_gap c0 σ) (fun r10 σ9 => fl (jmin v5 ((gi σ (c0 + 3) (gi σ (c0 + 2) (a1 - (1 : Int32)).toNatClampNeg).toNatClampNeg) - r10)) (fun v11 => LF_X1_roomAt c0 9 v2 v11 σ9)))))
noncomputable def F_X1_wears (c0 : Nat) (a1 : Int32) (a2 : Int32) (σ : Sg) : Sg := (if a2 = 0 then fl (jmax (0 : Int32) ((gi σ (c0 + 5) a1.toNatClampNeg) - (2 : Int32))) (fun v3 => fl (si σ (c0 + 5) a1.toNatClampNeg v3) (fun σ5 => σ5)) else fl (jmax (0 : Int32) ((gi σ (c0 + 4) a1.toNatClampNeg) - (1 : Int32))) (fun v7 => fl (si σ (c0 + 4) a1.toNatClampNeg v7) (fun σ9 => fop (gr σ9 c0 10) (σ) (fun f11 => fl (jmin (99 : Int32) ((gi σ9 (c0 + 5) a1.toNatClampNeg) + (gi σ9 f11 1))) (fun v12 => fl (si σ9 (c0 + 5) a1.toNatClampNeg v12) (fun σ14 => σ14))))))
noncomputable def LB_X1_goesMinute_2 (c0 : Nat) (rec : Nat → Int32 → Int32 → Int32 → Int32 → Sg → Int32 × Sg) (x1 : Int32) (σ : Sg) : Int32 × Sg := (if (gi σ c0 3) ≤ x1 then rec 1 (0 : Int32) (0 : Int32) 0 0 σ else fb (F_X1_strideAt c0 x1 σ) (fun r3 σ2 => fl (si σ2 (c0 + 14) x1.toNatClampNeg r3) (fun σ5 => fl (x1 + 1) (fun v6 => rec 0 v6 0 0 0 σ5))))
noncomputable def LB_X1_goesMinute_31 (c0 : Nat) (rec : Nat → Int32 → Int32 → Int32 → Int32 → Sg → Int32 × Sg) (x1 : Int32) (x2 : Int32) (σ : Sg) : Int32 × Sg := (if (gi σ c0 3) ≤ x2 then fl (si σ c0 9 ((gi σ c0 9) + (1 : Int32))) (fun σ2 => (x1, σ2)) else fl (gi σ (c0 + 2) x2.toNatClampNeg) (fun v4 => (if (gi σ (c0 + 6) v4.toNatClampNeg) ≤ 0 then fb (F_X1_roomAt c0 x2 σ) (fun r8 σ7 => (if (gi σ7 (c0 + 14) x2.toNatClampNeg) ≤ r8 then rec 2 x1 x2 v4 r8 σ7 else fl (x1 ||| ((1 : Int32) <<< (v4 &&& 31))) (fun v11 => rec 2 v11 x2 v4 r8 σ7))) else fl (si σ (c0 + 6) v4.toNatClampNeg ((gi σ (c0 + 6) v4.toNatClampNeg) - (1 : Int32))) (fun σ14 => rec 2 x1 x2 v4 (0 : Int32) σ14))))
noncomputable def LB_X1_goesMinute_95 (c0 : Nat) (rec : Nat → Int32 → Int32 → Int32 → Int32 → Sg → Int32 × Sg) (x1 : Int32) (x2 : Int32) (x3 : Int32) (x4 : Int32) (σ : Sg) : Int32 × Sg := fl (si σ (c0 + 3) x3.toNatClampNeg ((gi σ (c0 + 3) x3.toNatClampNeg) + x4)) (fun σ3 => (if x4 ≤ 0 then fl (F_X1_wears c0 x3 (0 : Int32) σ3) (fun σ5 => fl (x2 + 1) (fun v6 => rec 1 x1 v6 0 0 σ5)) else fl (F_X1_wears c0 x3 (1 : Int32) σ3) (fun σ7 => fl (x2 + 1) (fun v8 => rec 1 x1 v8 0 0 σ7))))
noncomputable def LF_X1_goesMinute (c0 : Nat) : Nat → Nat → Int32 → Int32 → Int32 → Int32 → Sg → Int32 × Sg
  | 0, _, _, _, _, _, σ => (0, σ)
  | n + 1, 0, x1, _, _, _, σ => LB_X1_goesMinute_2 c0 (LF_X1_goesMinute c0 n) x1 σ
  | n + 1, 1, x1, x2, _, _, σ => LB_X1_goesMinute_31 c0 (LF_X1_goesMinute c0 n) x1 x2 σ
  | n + 1, 2, x1, x2, x3, x4, σ => LB_X1_goesMinute_95 c0 (LF_X1_goesMinute c0 n) x1 x2 x3 x4 σ
  | _ + 1, _ + 3, _, _, _, _, σ => (0, σ)
noncomputable def F_X1_goesMinute (c0 : Nat) (σ : Sg) : Int32 × Sg := LF_X1_goesMinute c0 900 0 (0 : Int32) 0 0 0 σ
noncomputable def LB_X1_goes_2 (c0 : Nat) (rec : Int32 → Int32 → Sg → Sg) (x1 : Int32) (x2 : Int32) (σ : Sg) : Sg := (if x1 ≤ x2 then σ else fb (F_X1_goesMinute c0 σ) (fun r3 σ2 => fl (x2 + 1) (fun v4 => rec x1 v4 σ2)))
noncomputable def LF_X1_goes (c0 : Nat) : Nat → Int32 → Int32 → Sg → Sg
  | 0, _, _, σ => σ
  | n + 1, x1, x2, σ => LB_X1_goes_2 c0 (LF_X1_goes c0 n) x1 x2 σ
noncomputable def F_X1_goes (c0 : Nat) (a1 : Int32) (σ : Sg) : Sg := LF_X1_goes c0 90 a1 (0 : Int32) σ
noncomputable def LB_X1_passes_2 (c0 : Nat) (rec : Int32 → Int32 → Int32 → Sg → Sg) (x1 : Int32) (x2 : Int32) (x3 : Int32) (σ : Sg) : Sg := (if (gi σ c0 1) ≤ x3 then fl (si σ c0 9 ((gi σ c0 9) + x1)) (fun σ2 => σ2) else fl (jmax (0 : Int32) ((gi σ (c0 + 5) x3.toNatClampNeg) - x2)) (fun v4 => fl (si σ (c0 + 5) x3.toNatClampNeg v4) (fun σ6 => fl (jmax (0 : Int32) ((gi σ6 (c0 + 6) x3.toNatClampNeg) - x1)) (fun v8 => fl (si σ6 (c0 + 6) x3.toNatClampNeg v8) (fun σ10 => fl (x3 + 1) (fun v11 => rec x1 x2 v11 σ10))))))
noncomputable def LF_X1_passes (c0 : Nat) : Nat → Int32 → Int32 → Int32 → Sg → Sg
  | 0, _, _, _, σ => σ
  | n + 1, x1, x2, x3, σ => LB_X1_passes_2 c0 (LF_X1_passes c0 n) x1 x2 x3 σ
noncomputable def F_X1_passes (c0 : Nat) (a1 : Int32) (a2 : Int32) (σ : Sg) : Sg := LF_X1_passes c0 9 a1 a2 (0 : Int32) σ
noncomputable def LB_X1_whetsAll_2 (c0 : Nat) (rec : Int32 → Sg → Sg) (x1 : Int32) (σ : Sg) : Sg := (if (gi σ c0 1) ≤ x1 then fl (F_X1_passes c0 (1 : Int32) (1 : Int32) σ) (fun σ2 => σ2) else fl (si σ (c0 + 4) x1.toNatClampNeg (10 : Int32)) (fun σ4 => fl (x1 + 1) (fun v5 => rec v5 σ4)))
noncomputable def LF_X1_whetsAll (c0 : Nat) : Nat → Int32 → Sg → Sg
  | 0, _, σ => σ
  | n + 1, x1, σ => LB_X1_whetsAll_2 c0 (LF_X1_whetsAll c0 n) x1 σ
noncomputable def F_X1_whetsAll (c0 : Nat) (σ : Sg) : Sg := LF_X1_whetsAll c0 9 (0 : Int32) σ
noncomputable def F_X1_rests (c0 : Nat) (a1 : Int32) (σ : Sg) : Sg := fl (F_X1_passes c0 a1 ((3 : Int32) * a1) σ) (fun σ1 => σ1)
noncomputable def LB_X1_allAt_4 (c0 : Nat) (rec : Int32 → Int32 → Sg → Int32 × Sg) (x1 : Int32) (x2 : Int32) (σ : Sg) : Int32 × Sg := (if (gi σ c0 1) ≤ x2 then (x1, σ) else fl (x1 + (gi σ (c0 + 3) x2.toNatClampNeg)) (fun v3 => fl (x2 + 1) (fun v4 => rec v3 v4 σ)))
noncomputable def LF_X1_allAt (c0 : Nat) : Nat → Int32 → Int32 → Sg → Int32 × Sg
  | 0, _, _, σ => (0, σ)
  | n + 1, x1, x2, σ => LB_X1_allAt_4 c0 (LF_X1_allAt c0 n) x1 x2 σ
noncomputable def F_X1_allAt (c0 : Nat) (σ : Sg) : Int32 × Sg := LF_X1_allAt c0 9 (0 : Int32) (0 : Int32) σ
noncomputable def LB_X1_isDone_2 (c0 : Nat) (rec : Int32 → Sg → Int32 × Sg) (x1 : Int32) (σ : Sg) : Int32 × Sg := (if (gi σ c0 1) ≤ x1 then ((1 : Int32), σ) else fop (gr σ c0 10) ((0, σ)) (fun f3 => (if (gi σ f3 2) ≤ (gi σ (c0 + 3) x1.toNatClampNeg) then fl (x1 + 1) (fun v5 => rec v5 σ) else ((0 : Int32), σ))))
noncomputable def LF_X1_isDone (c0 : Nat) : Nat → Int32 → Sg → Int32 × Sg
  | 0, _, σ => (0, σ)
  | n + 1, x1, σ => LB_X1_isDone_2 c0 (LF_X1_isDone c0 n) x1 σ
noncomputable def F_X1_isDone (c0 : Nat) (σ : Sg) : Int32 × Sg := LF_X1_isDone c0 9 (0 : Int32) σ
noncomputable def F_X5_becomes (c0 : Nat) (a1 : Nat) (σ : Sg) : Sg := fl (si σ c0 1 (gi σ a1 1)) (fun σ1 => fl (jmin (Int32.ofNat (nl c0)) (Int32.ofNat (nl a1))) (fun v2 => fl (sia σ1 (c0 + 1) (va_cpy (σ1.1 (a1 + 1)) (σ1.1 (c0 + 1)) (0 : Int32).toNatClampNeg (0 : Int32).toNatClampNeg v2.toNatClampNeg)) (fun σ3 => σ3)))
noncomputable def LB_X1_becomes_42 (c0 : Nat) (a1 : Nat) (rec : Int32 → Sg → Sg) (x2 : Int32) (σ : Sg) : Sg := (if (6 : Int32) ≤ x2 then fl (sia σ (c0 + 7) (va_cpy (σ.1 (a1 + 7)) (σ.1 (c0 + 7)) (0 : Int32).toNatClampNeg (0 : Int32).toNatClampNeg (24 : Int32).toNatClampNeg)) (fun σ2 => σ2) else fl (sr σ (c0 + 1) x2.toNatClampNeg (gr σ (a1 + 1) x2.toNatClampNeg)) (fun σ5 => fl (si σ5 (c0 + 2) x2.toNatClampNeg (gi σ5 (a1 + 2) x2.toNatClampNeg)) (fun σ9 => fl (si σ9 (c0 + 3) x2.toNatClampNeg (gi σ9 (a1 + 3) x2.toNatClampNeg)) (fun σ12 => fl (si σ12 (c0 + 4) x2.toNatClampNeg (gi σ12 (a1 + 4) x2.toNatClampNeg)) (fun σ15 => fl (si σ15 (c0 + 5) x2.toNatClampNeg (gi σ15 (a1 + 5) x2.toNatClampNeg)) (fun σ18 => fl (si σ18 (c0 + 6) x2.toNatClampNeg (gi σ18 (a1 + 6) x2.toNatClampNeg)) (fun σ21 => fl (x2 + 1) (fun v22 => rec v22 σ21))))))))
noncomputable def LF_X1_becomes (c0 : Nat) (a1 : Nat) : Nat → Int32 → Sg → Sg
  | 0, _, σ => σ
  | n + 1, x2, σ => LB_X1_becomes_42 c0 a1 (LF_X1_becomes c0 a1 n) x2 σ
noncomputable def F_X1_becomes (c0 : Nat) (a1 : Nat) (σ : Sg) : Sg := fl (si σ c0 1 (gi σ a1 1)) (fun σ1 => fl (si σ1 c0 3 (gi σ1 a1 3)) (fun σ2 => fl (si σ2 c0 9 (gi σ2 a1 9)) (fun σ3 => fop (gr σ3 a1 10) (σ) (fun f4 => fl (sr σ3 c0 10 (some f4)) (fun σ5 => fl (si σ5 c0 11 (gi σ5 a1 11)) (fun σ6 => LF_X1_becomes c0 a1 9 (0 : Int32) σ6))))))
noncomputable def F_X1_becomesTold (c0 : Nat) (a1 : Nat) (σ : Sg) : Sg := fl (F_X5_becomes (c0 + 8) (a1 + 8) σ) (fun σ1 => fl (F_X5_becomes (c0 + 10) (a1 + 10) σ1) (fun σ2 => fl (F_X5_becomes (c0 + 12) (a1 + 12) σ2) (fun σ3 => σ3)))
noncomputable def LB_X11_hits_4 (rec : Int32 → Int32 → Int32 → Sg → Int32 × Sg) (x1 : Int32) (x2 : Int32) (x3 : Int32) (σ : Sg) : Int32 × Sg := (if (gi σ 33 1) ≤ x3 then (x2, σ) else (if x3 = x1 then fl (x3 + 1) (fun v3 => rec x1 x2 v3 σ) else (if (gi σ 68 x3.toNatClampNeg) ≤ (gi σ 36 x3.toNatClampNeg) then fl (x3 + 1) (fun v7 => rec x1 x2 v7 σ) else fl (x2 ||| ((1 : Int32) <<< (x3 &&& 31))) (fun v8 => fl (x3 + 1) (fun v9 => rec x1 v8 v9 σ)))))
noncomputable def LF_X11_hits : Nat → Int32 → Int32 → Int32 → Sg → Int32 × Sg
  | 0, _, _, _, σ => (0, σ)
  | n + 1, x1, x2, x3, σ => LB_X11_hits_4 (LF_X11_hits n) x1 x2 x3 σ
noncomputable def F_X11_hits (a1 : Int32) (σ : Sg) : Int32 × Sg := LF_X11_hits 9 a1 (0 : Int32) (0 : Int32) σ
noncomputable def F_X11_whetsIn (a1 : Int32) (a2 : Int32) (σ : Sg) : Int32 × Sg := (if a2 < (1 : Int32) then ((0 : Int32), σ) else (if (16 : Int32) ≤ a2 then ((0 : Int32), σ) else (if (a1 - a1 / a2 * a2) = 0 then ((1 : Int32), σ) else ((0 : Int32), σ))))
noncomputable def F_X11_told (a1 : Int32) (σ : Sg) : Int32 × Sg := (if a1.toInt = 0 then (gi σ 1 9, σ) else (if a1.toInt = 1 then fop (gr σ 1 10) ((0, σ)) (fun f5 => (gi σ f5 0, σ)) else (if a1.toInt = 2 then fop (gr σ 1 10) ((0, σ)) (fun f6 => (gi σ f6 1, σ)) else (if a1.toInt = 3 then fop (gr σ 1 10) ((0, σ)) (fun f7 => (gi σ f7 2, σ)) else (if a1 < (10 : Int32) then ((-1 : Int32), σ) else (if (gi σ 1 1) ≤ (a1 - (10 : Int32)) then ((-1 : Int32), σ) else (gi σ 3 (a1 - (10 : Int32)).toNatClampNeg, σ)))))))
noncomputable def F_X11_of (a1 : Int32) (a2 : Int32) (σ : Sg) : Int32 × Sg := fb (F_X11_isMower a1 σ) (fun r2 σ1 => (if r2 = 0 then ((-1 : Int32), σ1) else (if a2.toInt = 0 then fm (gr σ1 2 a1.toNatClampNeg) ((0, σ)) (fun μ6 ci6 => (gi σ1 μ6 0, σ1)) else (if a2.toInt = 1 then fm (gr σ1 2 a1.toNatClampNeg) ((0, σ)) (fun μ8 ci8 => (gi σ1 μ8 2, σ1)) else (if a2.toInt = 2 then (gi σ1 4 a1.toNatClampNeg, σ1) else (if a2.toInt = 3 then (gi σ1 5 a1.toNatClampNeg, σ1) else (if a2.toInt = 4 then (gi σ1 6 a1.toNatClampNeg, σ1) else (if a2.toInt = 5 then (gi σ1 7 a1.toNatClampNeg, σ1) else (if a2.toInt = 6 then fb (F_X1_placeOf 1 a1 σ1) (fun r14 σ13 => (r14, σ13)) else (if a2.toInt = 7 then fb (F_X1_placeOf 1 a1 σ1) (fun r16 σ15 => fb (F_X1_paceAt 1 r16 σ15) (fun r18 σ17 => (r18, σ17))) else (if a2.toInt = 8 then fb (F_X1_placeOf 1 a1 σ1) (fun r20 σ19 => fb (F_X1_strideAt 1 r20 σ19) (fun r22 σ21 => (r22, σ21))) else ((-1 : Int32), σ1))))))))))))
noncomputable def LB_X11_set_41 (rec : Int32 → Int32 → Int32 → Int32 → Sg → Int32 × Sg) (x1 : Int32) (x2 : Int32) (x3 : Int32) (z0 : Int32) (σ : Sg) : Int32 × Sg := (if x3 < 0 then ((-2 : Int32), σ) else (if x3 ≤ z0 then fb (F_X1_numbersOf 1 x2 σ) (fun a4 σ3 => fl (gi σ3 a4 x1.toNatClampNeg) (fun v6 => fl (si σ3 a4 x1.toNatClampNeg x3) (fun σ8 => (v6, σ8)))) else ((-2 : Int32), σ)))
noncomputable def LF_X11_set : Nat → Int32 → Int32 → Int32 → Int32 → Sg → Int32 × Sg
  | 0, _, _, _, _, σ => (0, σ)
  | n + 1, x1, x2, x3, z0, σ => LB_X11_set_41 (LF_X11_set n) x1 x2 x3 z0 σ
noncomputable def F_X11_set (a1 : Int32) (a2 : Int32) (a3 : Int32) (σ : Sg) : Int32 × Sg := fb (F_X11_isMower a1 σ) (fun r2 σ1 => (if r2 = 0 then ((-1 : Int32), σ1) else (if a2 < 0 then ((-1 : Int32), σ1) else (if a2 ≤ (3 : Int32) then (if a2 = 0 then LF_X11_set 9 a1 a2 a3 (9999 : Int32) σ1 else (if a2 = (1 : Int32) then LF_X11_set 9 a1 a2 a3 (10 : Int32) σ1 else LF_X11_set 9 a1 a2 a3 (99 : Int32) σ1)) else ((-1 : Int32), σ1)))))
noncomputable def F_X11_minute (σ : Sg) : Int32 × Sg := (if (gi σ 1 9) < (9999 : Int32) then fb (F_X1_goesMinute 1 σ) (fun r3 σ2 => (r3, σ2)) else ((-3 : Int32), σ))
noncomputable def F_X11_whet (σ : Sg) : Int32 × Sg := (if (gi σ 1 9) < (9999 : Int32) then fl (F_X1_whetsAll 1 σ) (fun σ2 => (gi σ2 1 9, σ2)) else ((-3 : Int32), σ))
noncomputable def F_X11_pause (a1 : Int32) (σ : Sg) : Int32 × Sg := (if a1 < (1 : Int32) then ((-2 : Int32), σ) else (if a1 ≤ (60 : Int32) then (if ((gi σ 1 9) + a1) ≤ (9999 : Int32) then fl (F_X1_rests 1 a1 σ) (fun σ4 => (gi σ4 1 9, σ4)) else ((-3 : Int32), σ)) else ((-2 : Int32), σ)))
noncomputable def LB_X11_heldTimes_5 (rec : Int32 → Int32 → Int32 → Int32 → Sg → Int32 × Sg) (x1 : Int32) (x2 : Int32) (x3 : Int32) (x4 : Int32) (σ : Sg) : Int32 × Sg := (if x2 ≤ x4 then (x3, σ) else fb (F_X1_goesMinute 33 σ) (fun r3 σ2 => fl (x3 + ((r3 >>> (x1 &&& 31)) &&& (1 : Int32))) (fun v4 => fl (x4 + 1) (fun v5 => rec x1 x2 v4 v5 σ2))))
noncomputable def LF_X11_heldTimes : Nat → Int32 → Int32 → Int32 → Int32 → Sg → Int32 × Sg
  | 0, _, _, _, _, σ => (0, σ)
  | n + 1, x1, x2, x3, x4, σ => LB_X11_heldTimes_5 (LF_X11_heldTimes n) x1 x2 x3 x4 σ
noncomputable def F_X11_heldTimes (a1 : Int32) (a2 : Int32) (σ : Sg) : Int32 × Sg := LF_X11_heldTimes 90 a1 a2 (0 : Int32) (0 : Int32) σ
noncomputable def LB_X11_on_22 (rec : Nat → Int32 → Int32 → Int32 → Int32 → Int32 → Sg → Int32 × Sg) (x1 : Int32) (x2 : Int32) (z0 : Int32) (σ : Sg) : Int32 × Sg := (if x2 < (20 : Int32) then rec 1 x1 x2 (0 : Int32) z0 0 σ else fb (F_X11_isMower (x2 - (20 : Int32)) σ) (fun r3 σ2 => (if r3 = 0 then rec 1 x1 x2 (0 : Int32) z0 0 σ2 else rec 1 x1 x2 (1 : Int32) z0 0 σ2)))
noncomputable def LB_X11_on_45 (rec : Nat → Int32 → Int32 → Int32 → Int32 → Int32 → Sg → Int32 × Sg) (x1 : Int32) (x2 : Int32) (x3 : Int32) (z0 : Int32) (σ : Sg) : Int32 × Sg := (if x2 = 0 then rec 2 x1 x2 0 x3 z0 σ else (if x3 = 0 then (if z0 = 0 then ((-1 : Int32), σ) else rec 2 x1 x2 0 x3 z0 σ) else rec 2 x1 x2 0 x3 z0 σ))
noncomputable def LB_X11_on_62 (rec : Nat → Int32 → Int32 → Int32 → Int32 → Int32 → Sg → Int32 × Sg) (x1 : Int32) (x2 : Int32) (x3 : Int32) (x4 : Int32) (σ : Sg) : Int32 × Sg := (if x1 < 0 then ((-2 : Int32), σ) else (if x1 ≤ (60 : Int32) then fl (F_X1_becomes 33 1 σ) (fun σ3 => (if x4 = 0 then fl (F_X1_goes 33 x1 σ3) (fun σ5 => (if x3 = 0 then fb (F_X1_allAt 33 σ5) (fun r8 σ7 => (r8, σ7)) else (gi σ5 36 (x2 - (10 : Int32)).toNatClampNeg, σ5))) else fb (F_X11_heldTimes (x2 - (20 : Int32)) x1 σ3) (fun r11 σ10 => (r11, σ10)))) else ((-2 : Int32), σ)))
noncomputable def LF_X11_on : Nat → Nat → Int32 → Int32 → Int32 → Int32 → Int32 → Sg → Int32 × Sg
  | 0, _, _, _, _, _, _, σ => (0, σ)
  | n + 1, 0, x1, x2, z0, _, _, σ => LB_X11_on_22 (LF_X11_on n) x1 x2 z0 σ
  | n + 1, 1, x1, x2, z0, x3, _, σ => LB_X11_on_45 (LF_X11_on n) x1 x2 x3 z0 σ
  | n + 1, 2, x1, x2, _, x3, x4, σ => LB_X11_on_62 (LF_X11_on n) x1 x2 x3 x4 σ
  | _ + 1, _ + 3, _, _, _, _, _, σ => (0, σ)
noncomputable def F_X11_on (a1 : Int32) (a2 : Int32) (σ : Sg) : Int32 × Sg := (if a2 < (10 : Int32) then LF_X11_on 9 0 a1 a2 (0 : Int32) 0 0 σ else fb (F_X11_isMower (a2 - (10 : Int32)) σ) (fun r3 σ2 => (if r3 = 0 then LF_X11_on 9 0 a1 a2 (0 : Int32) 0 0 σ2 else LF_X11_on 9 0 a1 a2 (1 : Int32) 0 0 σ2)))
noncomputable def LB_X11_done_13 (rec : Int32 → Sg → Int32 × Sg) (x1 : Int32) (σ : Sg) : Int32 × Sg := (if (120 : Int32) < x1 then ((-5 : Int32), σ) else fb (F_X1_isDone 33 σ) (fun r3 σ2 => (if r3 = 0 then fb (F_X1_goesMinute 33 σ2) (fun r6 σ5 => fl (x1 + 1) (fun v7 => rec v7 σ5)) else (x1, σ2))))
noncomputable def LF_X11_done : Nat → Int32 → Sg → Int32 × Sg
  | 0, _, σ => (0, σ)
  | n + 1, x1, σ => LB_X11_done_13 (LF_X11_done n) x1 σ
noncomputable def F_X11_done (σ : Sg) : Int32 × Sg := fl (F_X1_becomes 33 1 σ) (fun σ1 => LF_X11_done 200 (0 : Int32) σ1)
noncomputable def LB_X11_totalBy_24 (rec : Nat → Int32 → Int32 → Int32 → Int32 → Sg → Int32 × Sg) (x1 : Int32) (x2 : Int32) (x3 : Int32) (σ : Sg) : Int32 × Sg := (if x1 = (2 : Int32) then fb (F_X11_isMower x3 σ) (fun r3 σ2 => (if r3 = 0 then rec 1 x1 x2 x3 (0 : Int32) σ2 else fl (si σ2 39 x3.toNatClampNeg ((gi σ2 39 x3.toNatClampNeg) + (5 : Int32))) (fun σ7 => rec 1 x1 x2 x3 (0 : Int32) σ7))) else rec 1 x1 x2 x3 (0 : Int32) σ)
noncomputable def LB_X11_totalBy_53 (rec : Nat → Int32 → Int32 → Int32 → Int32 → Sg → Int32 × Sg) (x1 : Int32) (x2 : Int32) (x3 : Int32) (x4 : Int32) (σ : Sg) : Int32 × Sg := (if x2 ≤ x4 then fb (F_X1_allAt 33 σ) (fun r3 σ2 => (r3, σ2)) else (if x1 = (3 : Int32) then (if x4 = x3 then fl (F_X1_rests 33 (5 : Int32) σ) (fun σ6 => rec 2 x1 x2 x3 x4 σ6) else rec 2 x1 x2 x3 x4 σ) else rec 2 x1 x2 x3 x4 σ))
noncomputable def LB_X11_totalBy_78 (rec : Nat → Int32 → Int32 → Int32 → Int32 → Sg → Int32 × Sg) (x1 : Int32) (x2 : Int32) (x3 : Int32) (x4 : Int32) (σ : Sg) : Int32 × Sg := (if x1 = 0 then fb (F_X11_whetsIn (x4 + (1 : Int32)) x3 σ) (fun r6 σ5 => (if r6 = 0 then fb (F_X1_goesMinute 33 σ5) (fun r9 σ8 => fl (x4 + 1) (fun v10 => rec 1 x1 x2 x3 v10 σ8)) else fl (F_X1_whetsAll 33 σ5) (fun σ11 => fl (x4 + 1) (fun v12 => rec 1 x1 x2 x3 v12 σ11)))) else fb (F_X1_goesMinute 33 σ) (fun r3 σ2 => fl (x4 + 1) (fun v4 => rec 1 x1 x2 x3 v4 σ2)))
noncomputable def LF_X11_totalBy : Nat → Nat → Int32 → Int32 → Int32 → Int32 → Sg → Int32 × Sg
  | 0, _, _, _, _, _, σ => (0, σ)
  | n + 1, 0, x1, x2, x3, _, σ => LB_X11_totalBy_24 (LF_X11_totalBy n) x1 x2 x3 σ
  | n + 1, 1, x1, x2, x3, x4, σ => LB_X11_totalBy_53 (LF_X11_totalBy n) x1 x2 x3 x4 σ
  | n + 1, 2, x1, x2, x3, x4, σ => LB_X11_totalBy_78 (LF_X11_totalBy n) x1 x2 x3 x4 σ
  | _ + 1, _ + 3, _, _, _, _, σ => (0, σ)
noncomputable def F_X11_totalBy (a1 : Int32) (a2 : Int32) (a3 : Int32) (σ : Sg) : Int32 × Sg := fl (F_X1_becomes 33 1 σ) (fun σ1 => (if a1 = (1 : Int32) then fl (si σ1 33 11 a3) (fun σ3 => LF_X11_totalBy 2000 0 a1 a2 a3 0 σ3) else LF_X11_totalBy 2000 0 a1 a2 a3 0 σ1))
noncomputable def LB_X11_mostBy_17 (rec : Int32 → Int32 → Int32 → Int32 → Int32 → Int32 → Int32 → Sg → Int32 × Sg) (x1 : Int32) (x2 : Int32) (x4 : Int32) (x5 : Int32) (x6 : Int32) (x7 : Int32) (x8 : Int32) (σ : Sg) : Int32 × Sg := (if x4 < x8 then (if x5 = 0 then (x6, σ) else (x7, σ)) else fb (F_X11_totalBy x1 x2 x8 σ) (fun r4 σ3 => (if r4 ≤ x7 then fl (x8 + 1) (fun v6 => rec x1 x2 x4 x5 x6 x7 v6 σ3) else fl (x8 + 1) (fun v7 => rec x1 x2 x4 x5 x8 r4 v7 σ3))))
noncomputable def LF_X11_mostBy : Nat → Int32 → Int32 → Int32 → Int32 → Int32 → Int32 → Int32 → Sg → Int32 × Sg
  | 0, _, _, _, _, _, _, _, σ => (0, σ)
  | n + 1, x1, x2, x4, x5, x6, x7, x8, σ => LB_X11_mostBy_17 (LF_X11_mostBy n) x1 x2 x4 x5 x6 x7 x8 σ
noncomputable def F_X11_mostBy (a1 : Int32) (a2 : Int32) (a3 : Int32) (a4 : Int32) (a5 : Int32) (σ : Sg) : Int32 × Sg := fb (F_X11_totalBy a1 a2 a3 σ) (fun r2 σ1 => fl (a3 + (1 : Int32)) (fun v3 => LF_X11_mostBy 90 a1 a2 a4 a5 a3 r2 v3 σ1))
noncomputable def LB_X11_whets_11 (rec : Int32 → Int32 → Sg → Int32 × Sg) (x1 : Int32) (x2 : Int32) (σ : Sg) : Int32 × Sg := (if x1 < (1 : Int32) then ((-2 : Int32), σ) else (if x1 ≤ (60 : Int32) then fb (F_X11_mostBy (0 : Int32) x1 (1 : Int32) (16 : Int32) x2 σ) (fun r4 σ3 => (r4, σ3)) else ((-2 : Int32), σ)))
noncomputable def LF_X11_whets : Nat → Int32 → Int32 → Sg → Int32 × Sg
  | 0, _, _, σ => (0, σ)
  | n + 1, x1, x2, σ => LB_X11_whets_11 (LF_X11_whets n) x1 x2 σ
noncomputable def F_X11_whets (a1 : Int32) (a2 : Int32) (σ : Sg) : Int32 × Sg := (if a2 = 0 then LF_X11_whets 9 a1 a2 σ else (if a2 = (1 : Int32) then LF_X11_whets 9 a1 a2 σ else ((-1 : Int32), σ)))
noncomputable def LB_X11_apart_11 (rec : Int32 → Int32 → Sg → Int32 × Sg) (x1 : Int32) (x2 : Int32) (σ : Sg) : Int32 × Sg := (if x1 < (1 : Int32) then ((-2 : Int32), σ) else (if x1 ≤ (60 : Int32) then fb (F_X11_mostBy (1 : Int32) x1 (0 : Int32) (9 : Int32) x2 σ) (fun r4 σ3 => (r4, σ3)) else ((-2 : Int32), σ)))
noncomputable def LF_X11_apart : Nat → Int32 → Int32 → Sg → Int32 × Sg
  | 0, _, _, σ => (0, σ)
  | n + 1, x1, x2, σ => LB_X11_apart_11 (LF_X11_apart n) x1 x2 σ
noncomputable def F_X11_apart (a1 : Int32) (a2 : Int32) (σ : Sg) : Int32 × Sg := (if a2 = 0 then LF_X11_apart 9 a1 a2 σ else (if a2 = (1 : Int32) then LF_X11_apart 9 a1 a2 σ else ((-1 : Int32), σ)))
noncomputable def LB_X11_rest_11 (rec : Int32 → Int32 → Sg → Int32 × Sg) (x1 : Int32) (x2 : Int32) (σ : Sg) : Int32 × Sg := (if x1 < (1 : Int32) then ((-2 : Int32), σ) else (if x1 ≤ (60 : Int32) then fb (F_X11_mostBy (2 : Int32) x1 (-1 : Int32) ((gi σ 1 1) - (1 : Int32)) (0 : Int32) σ) (fun r4 σ3 => (if 0 ≤ r4 then (if x2 = 0 then (r4, σ3) else fb (F_X11_totalBy (2 : Int32) x1 r4 σ3) (fun r8 σ7 => (r8, σ7))) else ((-5 : Int32), σ3))) else ((-2 : Int32), σ)))
noncomputable def LF_X11_rest : Nat → Int32 → Int32 → Sg → Int32 × Sg
  | 0, _, _, σ => (0, σ)
  | n + 1, x1, x2, σ => LB_X11_rest_11 (LF_X11_rest n) x1 x2 σ
noncomputable def F_X11_rest (a1 : Int32) (a2 : Int32) (σ : Sg) : Int32 × Sg := (if a2 = 0 then LF_X11_rest 9 a1 a2 σ else (if a2 = (1 : Int32) then LF_X11_rest 9 a1 a2 σ else ((-1 : Int32), σ)))
noncomputable def LB_X11_paused_11 (rec : Int32 → Int32 → Sg → Int32 × Sg) (x1 : Int32) (x2 : Int32) (σ : Sg) : Int32 × Sg := (if x1 < (1 : Int32) then ((-2 : Int32), σ) else (if x1 ≤ (30 : Int32) then fb (F_X11_mostBy (3 : Int32) x1 (0 : Int32) x1 x2 σ) (fun r4 σ3 => (r4, σ3)) else ((-2 : Int32), σ)))
noncomputable def LF_X11_paused : Nat → Int32 → Int32 → Sg → Int32 × Sg
  | 0, _, _, σ => (0, σ)
  | n + 1, x1, x2, σ => LB_X11_paused_11 (LF_X11_paused n) x1 x2 σ
noncomputable def F_X11_paused (a1 : Int32) (a2 : Int32) (σ : Sg) : Int32 × Sg := (if a2 = 0 then LF_X11_paused 9 a1 a2 σ else (if a2 = (1 : Int32) then LF_X11_paused 9 a1 a2 σ else ((-1 : Int32), σ)))
noncomputable def F_X11_swapsTried (a1 : Int32) (a2 : Int32) (σ : Sg) : Sg := fl (gi σ 66 a1.toNatClampNeg) (fun v2 => fl (si σ 66 a1.toNatClampNeg (gi σ 66 a2.toNatClampNeg)) (fun σ5 => fl (si σ5 66 a2.toNatClampNeg v2) (fun σ7 => σ7)))
noncomputable def LB_X11_triesNextOrder_4 (rec : Nat → Int32 → Int32 → Int32 → Int32 → Int32 → Sg → Int32 × Sg) (x1 : Int32) (x2 : Int32) (σ : Sg) : Int32 × Sg := (if x2 < 0 then (if 0 ≤ x2 then fl (x1 - (1 : Int32)) (fun v3 => rec 1 x1 x2 v3 0 0 σ) else ((0 : Int32), σ)) else (if (gi σ 66 x2.toNatClampNeg) ≤ (gi σ 66 (x2 + (1 : Int32)).toNatClampNeg) then (if 0 ≤ x2 then fl (x1 - (1 : Int32)) (fun v8 => rec 1 x1 x2 v8 0 0 σ) else ((0 : Int32), σ)) else fl (x2 - 1) (fun v9 => rec 0 x1 v9 0 0 0 σ)))
noncomputable def LB_X11_triesNextOrder_41 (rec : Nat → Int32 → Int32 → Int32 → Int32 → Int32 → Sg → Int32 × Sg) (x1 : Int32) (x2 : Int32) (x3 : Int32) (σ : Sg) : Int32 × Sg := (if x3 ≤ x2 then rec 2 x1 x2 x3 0 0 σ else (if (gi σ 66 x2.toNatClampNeg) ≤ (gi σ 66 x3.toNatClampNeg) then rec 2 x1 x2 x3 0 0 σ else fl (x3 - 1) (fun v5 => rec 1 x1 x2 v5 0 0 σ)))
noncomputable def LB_X11_triesNextOrder_67 (rec : Nat → Int32 → Int32 → Int32 → Int32 → Int32 → Sg → Int32 × Sg) (x1 : Int32) (x2 : Int32) (x3 : Int32) (σ : Sg) : Int32 × Sg := fl (F_X11_swapsTried x2 x3 σ) (fun σ1 => fl (x2 + (1 : Int32)) (fun v2 => fl (x1 - (1 : Int32)) (fun v3 => rec 3 0 0 0 v2 v3 σ1)))
noncomputable def LB_X11_triesNextOrder_83 (rec : Nat → Int32 → Int32 → Int32 → Int32 → Int32 → Sg → Int32 × Sg) (x4 : Int32) (x5 : Int32) (σ : Sg) : Int32 × Sg := (if x5 ≤ x4 then ((1 : Int32), σ) else fl (F_X11_swapsTried x4 x5 σ) (fun σ2 => fl (x4 + 1) (fun v3 => fl (x5 - 1) (fun v4 => rec 3 0 0 0 v3 v4 σ2))))
noncomputable def LF_X11_triesNextOrder : Nat → Nat → Int32 → Int32 → Int32 → Int32 → Int32 → Sg → Int32 × Sg
  | 0, _, _, _, _, _, _, σ => (0, σ)
  | n + 1, 0, x1, x2, _, _, _, σ => LB_X11_triesNextOrder_4 (LF_X11_triesNextOrder n) x1 x2 σ
  | n + 1, 1, x1, x2, x3, _, _, σ => LB_X11_triesNextOrder_41 (LF_X11_triesNextOrder n) x1 x2 x3 σ
  | n + 1, 2, x1, x2, x3, _, _, σ => LB_X11_triesNextOrder_67 (LF_X11_triesNextOrder n) x1 x2 x3 σ
  | n + 1, 3, _, _, _, x4, x5, σ => LB_X11_triesNextOrder_83 (LF_X11_triesNextOrder n) x4 x5 σ
  | _ + 1, _ + 4, _, _, _, _, _, σ => (0, σ)
noncomputable def F_X11_triesNextOrder (a1 : Int32) (σ : Sg) : Int32 × Sg := fl (a1 - (2 : Int32)) (fun v1 => LF_X11_triesNextOrder 900 0 a1 v1 0 0 0 σ)
noncomputable def LB_X11_totalInOrder_13 (rec : Nat → Int32 → Int32 → Sg → Int32 × Sg) (x1 : Int32) (x2 : Int32) (σ : Sg) : Int32 × Sg := (if (gi σ 33 1) ≤ x2 then rec 1 x1 (0 : Int32) σ else (if (5 : Int32) ≤ x2 then rec 1 x1 (0 : Int32) σ else fl (si σ 35 x2.toNatClampNeg (gi σ 66 x2.toNatClampNeg)) (fun σ5 => fl (si σ5 36 x2.toNatClampNeg (0 : Int32)) (fun σ7 => fl (x2 + 1) (fun v8 => rec 0 x1 v8 σ7)))))
noncomputable def LB_X11_totalInOrder_62 (rec : Nat → Int32 → Int32 → Sg → Int32 × Sg) (x1 : Int32) (x2 : Int32) (σ : Sg) : Int32 × Sg := (if x1 ≤ x2 then fb (F_X1_allAt 33 σ) (fun r3 σ2 => (r3, σ2)) else fb (F_X1_goesMinute 33 σ) (fun r5 σ4 => fl (x2 + 1) (fun v6 => rec 1 x1 v6 σ4)))
noncomputable def LF_X11_totalInOrder : Nat → Nat → Int32 → Int32 → Sg → Int32 × Sg
  | 0, _, _, _, σ => (0, σ)
  | n + 1, 0, x1, x2, σ => LB_X11_totalInOrder_13 (LF_X11_totalInOrder n) x1 x2 σ
  | n + 1, 1, x1, x2, σ => LB_X11_totalInOrder_62 (LF_X11_totalInOrder n) x1 x2 σ
  | _ + 1, _ + 2, _, _, σ => (0, σ)
noncomputable def F_X11_totalInOrder (a1 : Int32) (σ : Sg) : Int32 × Sg := fl (F_X1_becomes 33 1 σ) (fun σ1 => LF_X11_totalInOrder 300 0 a1 (0 : Int32) σ1)
noncomputable def LB_X11_findsBestOrder_14 (rec : Nat → Int32 → Int32 → Int32 → Int32 → Int32 → Sg → Int32 × Sg) (x1 : Int32) (x2 : Int32) (x3 : Int32) (σ : Sg) : Int32 × Sg := (if x2 ≤ x3 then rec 1 x1 x2 (-1 : Int32) (1 : Int32) (0 : Int32) σ else fl (si σ 66 x3.toNatClampNeg x3) (fun σ3 => fl (x3 + 1) (fun v4 => rec 0 x1 x2 v4 0 0 σ3)))
noncomputable def LB_X11_findsBestOrder_40 (rec : Nat → Int32 → Int32 → Int32 → Int32 → Int32 → Sg → Int32 × Sg) (x1 : Int32) (x2 : Int32) (x3 : Int32) (x4 : Int32) (x5 : Int32) (σ : Sg) : Int32 × Sg := (if (120 : Int32) ≤ x5 then (x3, σ) else (if x4 = 0 then (x3, σ) else fb (F_X11_totalInOrder x1 σ) (fun r4 σ3 => (if r4 ≤ x3 then fb (F_X11_triesNextOrder x2 σ3) (fun r7 σ6 => fl (x5 + 1) (fun v8 => rec 1 x1 x2 x3 r7 v8 σ6)) else fl (sia σ3 67 (va_cpy (σ3.1 66) (σ3.1 67) (0 : Int32).toNatClampNeg (0 : Int32).toNatClampNeg x2.toNatClampNeg)) (fun σ9 => fb (F_X11_triesNextOrder x2 σ9) (fun r11 σ10 => fl (x5 + 1) (fun v12 => rec 1 x1 x2 r4 r11 v12 σ10)))))))
noncomputable def LF_X11_findsBestOrder : Nat → Nat → Int32 → Int32 → Int32 → Int32 → Int32 → Sg → Int32 × Sg
  | 0, _, _, _, _, _, _, σ => (0, σ)
  | n + 1, 0, x1, x2, x3, _, _, σ => LB_X11_findsBestOrder_14 (LF_X11_findsBestOrder n) x1 x2 x3 σ
  | n + 1, 1, x1, x2, x3, x4, x5, σ => LB_X11_findsBestOrder_40 (LF_X11_findsBestOrder n) x1 x2 x3 x4 x5 σ
  | _ + 1, _ + 2, _, _, _, _, _, σ => (0, σ)
noncomputable def F_X11_findsBestOrder (a1 : Int32) (σ : Sg) : Int32 × Sg := fl (jmin (gi σ 1 1) (5 : Int32)) (fun v1 => LF_X11_findsBestOrder 900 0 a1 v1 (0 : Int32) 0 0 σ)
noncomputable def F_X11_order (a1 : Int32) (a2 : Int32) (σ : Sg) : Int32 × Sg := (if a2 < (-1 : Int32) then ((-1 : Int32), σ) else (if a2 ≤ (4 : Int32) then (if a1 < (1 : Int32) then ((-2 : Int32), σ) else (if a1 ≤ (12 : Int32) then (if (gi σ 1 1) ≤ (5 : Int32) then (if a2 < (gi σ 1 1) then fb (F_X11_findsBestOrder a1 σ) (fun r8 σ7 => (if 0 ≤ a2 then (gi σ7 67 a2.toNatClampNeg, σ7) else (r8, σ7))) else ((-5 : Int32), σ)) else ((-9 : Int32), σ)) else ((-2 : Int32), σ))) else ((-1 : Int32), σ)))
noncomputable def F_X11_plan (a1 : Int32) (σ : Sg) : Int32 × Sg := (if a1 = (-1 : Int32) then fl (si σ 11 1 (0 : Int32)) (fun σ8 => ((0 : Int32), σ8)) else (if a1 < 0 then ((-1 : Int32), σ) else (if a1 ≤ (2 : Int32) then fb (F_X5_isFull 11 σ) (fun r5 σ4 => (if r5 = 0 then fl (F_X5_comes 11 a1 σ4) (fun σ7 => (gi σ7 11 1, σ7)) else ((-4 : Int32), σ4))) else ((-1 : Int32), σ))))
noncomputable def LB_X11_planned_13 (rec : Int32 → Sg → Int32 × Sg) (x1 : Int32) (σ : Sg) : Int32 × Sg := (if (gi σ 11 1) ≤ x1 then fb (F_X1_allAt 33 σ) (fun r3 σ2 => (r3, σ2)) else fl (gi σ 12 x1.toNatClampNeg) (fun v5 => (if v5 = 0 then fb (F_X1_goesMinute 33 σ) (fun r13 σ12 => fl (x1 + 1) (fun v14 => rec v14 σ12)) else (if v5 = (1 : Int32) then fl (F_X1_whetsAll 33 σ) (fun σ10 => fl (x1 + 1) (fun v11 => rec v11 σ10)) else fl (F_X1_rests 33 (1 : Int32) σ) (fun σ8 => fl (x1 + 1) (fun v9 => rec v9 σ8))))))
noncomputable def LF_X11_planned : Nat → Int32 → Sg → Int32 × Sg
  | 0, _, σ => (0, σ)
  | n + 1, x1, σ => LB_X11_planned_13 (LF_X11_planned n) x1 σ
noncomputable def F_X11_planned (σ : Sg) : Int32 × Sg := fl (F_X1_becomes 33 1 σ) (fun σ1 => LF_X11_planned 90 (0 : Int32) σ1)
noncomputable def LB_X11_judge_37 (rec : Int32 → Nat → Int32 → Sg → Int32 × Sg) (x2 : Int32) (x3 : Nat) (x4 : Int32) (σ : Sg) : Int32 × Sg := (if (gi σ 1 1) ≤ x4 then ((-5 : Int32), σ) else fb (F_X9_has x3 x2 σ) (fun r3 σ2 => (if r3 = 0 then ((100 : Int32) + x4, σ2) else fb (F_X9_has x3 (x2 + x4) σ2) (fun r6 σ5 => (if r6 = 0 then ((100 : Int32) + x4, σ5) else (if (lg_cmp (gl σ5 (x3 + 1) (x2 + x4).toNatClampNeg) ((gi σ5 4 x4.toNatClampNeg).toInt64)) = 0 then fl (x4 + 1) (fun v11 => rec x2 x3 v11 σ5) else (x4, σ5)))))))
noncomputable def LF_X11_judge : Nat → Int32 → Nat → Int32 → Sg → Int32 × Sg
  | 0, _, _, _, σ => (0, σ)
  | n + 1, x2, x3, x4, σ => LB_X11_judge_37 (LF_X11_judge n) x2 x3 x4 σ
noncomputable def F_X11_judge (a1 : Int32) (a2 : Int32) (σ : Sg) : Int32 × Sg := fb (F_X11_isTape a1 σ) (fun r2 σ1 => (if r2 = 0 then ((-1 : Int32), σ1) else fb (F_X9_isEmpty (52 + 2 * a1.toNatClampNeg) σ1) (fun r6 σ5 => (if r6 = 0 then (if (gi σ5 (52 + 2 * a1.toNatClampNeg) 1) = (1 : Int32) then LF_X11_judge 9 a2 (52 + 2 * a1.toNatClampNeg) (0 : Int32) σ5 else ((-12 : Int32), σ5)) else LF_X11_judge 9 a2 (52 + 2 * a1.toNatClampNeg) (0 : Int32) σ5))))
noncomputable def F_X11_image (σ : Sg) : Int32 × Sg := fl (F_X1_becomes 17 1 σ) (fun σ1 => fl (F_X1_becomesTold 17 1 σ1) (fun σ2 => fl (si σ2 0 3 (1 : Int32)) (fun σ3 => (gi σ3 1 1, σ3))))
noncomputable def F_X11_undo (σ : Sg) : Int32 × Sg := (if (gi σ 0 3) = 0 then ((-3 : Int32), σ) else fl (F_X1_becomes 1 17 σ) (fun σ2 => fl (F_X1_becomesTold 1 17 σ2) (fun σ3 => (gi σ3 1 1, σ3))))
noncomputable def LB_X11_stop_22 (rec : Int32 → Int32 → Int32 → Int32 → Sg → Int32 × Sg) (x1 : Int32) (x2 : Int32) (x3 : Int32) (x4 : Int32) (σ : Sg) : Int32 × Sg := (if x2 < (1 : Int32) then ((-100002 : Int32), σ) else (if (20 : Int32) < x2 then ((-100002 : Int32), σ) else (if x3 < (1 : Int32) then ((-100002 : Int32), σ) else (if x3 ≤ (60 : Int32) then fl (F_X1_becomes 33 1 σ) (fun σ5 => fl (F_X1_goes 33 x3 σ5) (fun σ6 => fb (F_X1_allAt 33 σ6) (fun r8 σ7 => fl (sia σ7 68 (va_cpy (σ7.1 36) (σ7.1 68) (0 : Int32).toNatClampNeg (0 : Int32).toNatClampNeg (6 : Int32).toNatClampNeg)) (fun σ9 => fl (F_X1_becomes 33 1 σ9) (fun σ10 => fl (si σ10 39 x1.toNatClampNeg ((gi σ10 39 x1.toNatClampNeg) + x2)) (fun σ13 => fl (F_X1_goes 33 x3 σ13) (fun σ14 => (if x4 = 0 then fb (F_X1_allAt 33 σ14) (fun r19 σ18 => (r8 - r19, σ18)) else fb (F_X11_hits x1 σ14) (fun r17 σ16 => (r17, σ16)))))))))) else ((-100002 : Int32), σ)))))
noncomputable def LF_X11_stop : Nat → Int32 → Int32 → Int32 → Int32 → Sg → Int32 × Sg
  | 0, _, _, _, _, σ => (0, σ)
  | n + 1, x1, x2, x3, x4, σ => LB_X11_stop_22 (LF_X11_stop n) x1 x2 x3 x4 σ
noncomputable def F_X11_stop (a1 : Int32) (a2 : Int32) (a3 : Int32) (a4 : Int32) (σ : Sg) : Int32 × Sg := fb (F_X11_isMower a1 σ) (fun r2 σ1 => (if r2 = 0 then ((-100001 : Int32), σ1) else (if a4 = 0 then LF_X11_stop 9 a1 a2 a3 a4 σ1 else (if a4 = (1 : Int32) then LF_X11_stop 9 a1 a2 a3 a4 σ1 else ((-100001 : Int32), σ1)))))
noncomputable def LB_X11_alone_43 (rec : Int32 → Int32 → Int32 → Sg → Int32 × Sg) (x1 : Int32) (x2 : Int32) (x3 : Int32) (σ : Sg) : Int32 × Sg := (if (gi σ 1 1) ≤ x3 then (x2, σ) else fl (F_X1_becomes 33 1 σ) (fun σ2 => fl (si σ2 35 (0 : Int32).toNatClampNeg x3) (fun σ4 => fl (si σ4 33 3 (1 : Int32)) (fun σ5 => fl (F_X1_goes 33 x1 σ5) (fun σ6 => fl (x2 - (gi σ6 36 x3.toNatClampNeg)) (fun v8 => fl (x3 + 1) (fun v9 => rec x1 v8 v9 σ6)))))))
noncomputable def LF_X11_alone : Nat → Int32 → Int32 → Int32 → Sg → Int32 × Sg
  | 0, _, _, _, σ => (0, σ)
  | n + 1, x1, x2, x3, σ => LB_X11_alone_43 (LF_X11_alone n) x1 x2 x3 σ
noncomputable def F_X11_alone (a1 : Int32) (σ : Sg) : Int32 × Sg := (if a1 < (1 : Int32) then ((-100002 : Int32), σ) else (if a1 ≤ (60 : Int32) then fl (F_X1_becomes 33 1 σ) (fun σ3 => fl (F_X1_goes 33 a1 σ3) (fun σ4 => fb (F_X1_allAt 33 σ4) (fun r6 σ5 => LF_X11_alone 9 a1 r6 (0 : Int32) σ5))) else ((-100002 : Int32), σ)))
noncomputable def F_X11_see (a1 : Int32) (a2 : Int32) (a3 : Int32) (σ : Sg) : Int32 × Sg := (if a1 = (-1 : Int32) then fl (si σ 9 1 (0 : Int32)) (fun σ15 => ((0 : Int32), σ15)) else fb (F_X11_isMower a1 σ) (fun r3 σ2 => (if r3 = 0 then ((-1 : Int32), σ2) else (if a2 < 0 then ((-2 : Int32), σ2) else (if (30 : Int32) < a2 then ((-2 : Int32), σ2) else (if a3 < 0 then ((-2 : Int32), σ2) else (if a3 ≤ (9999 : Int32) then fb (F_X5_isFull 9 σ2) (fun r10 σ9 => (if r10 = 0 then fl (F_X5_comes 9 a1 σ9) (fun σ12 => fl (F_X5_comes 9 a2 σ12) (fun σ13 => fl (F_X5_comes 9 a3 σ13) (fun σ14 => ((gi σ14 9 1) / (3 : Int32), σ14)))) else ((-4 : Int32), σ9))) else ((-2 : Int32), σ2))))))))
noncomputable def LB_X11_seenIsSo_13 (rec : Int32 → Int32 → Sg → Int32 × Sg) (x1 : Int32) (x3 : Int32) (σ : Sg) : Int32 × Sg := (if (gi σ 9 1) ≤ (x3 + (2 : Int32)) then ((1 : Int32), σ) else (if (gi σ 10 (x3 + (1 : Int32)).toNatClampNeg) = x1 then (if (gi σ 36 (gi σ 10 x3.toNatClampNeg).toNatClampNeg) = (gi σ 10 (x3 + (2 : Int32)).toNatClampNeg) then fl (x3 + 3) (fun v9 => rec x1 v9 σ) else ((0 : Int32), σ)) else fl (x3 + 3) (fun v4 => rec x1 v4 σ)))
noncomputable def LF_X11_seenIsSo : Nat → Int32 → Int32 → Sg → Int32 × Sg
  | 0, _, _, σ => (0, σ)
  | n + 1, x1, x3, σ => LB_X11_seenIsSo_13 (LF_X11_seenIsSo n) x1 x3 σ
noncomputable def F_X11_seenIsSo (a1 : Int32) (σ : Sg) : Int32 × Sg := LF_X11_seenIsSo 90 a1 (0 : Int32) σ
noncomputable def LB_X11_allSeenIsSo_2 (rec : Int32 → Sg → Int32 × Sg) (x1 : Int32) (σ : Sg) : Int32 × Sg := (if (30 : Int32) < x1 then ((1 : Int32), σ) else fb (F_X11_seenIsSo x1 σ) (fun r3 σ2 => (if r3 = 0 then ((0 : Int32), σ2) else fb (F_X1_goesMinute 33 σ2) (fun r6 σ5 => fl (x1 + 1) (fun v7 => rec v7 σ5)))))
noncomputable def LF_X11_allSeenIsSo : Nat → Int32 → Sg → Int32 × Sg
  | 0, _, σ => (0, σ)
  | n + 1, x1, σ => LB_X11_allSeenIsSo_2 (LF_X11_allSeenIsSo n) x1 σ
noncomputable def F_X11_allSeenIsSo (σ : Sg) : Int32 × Sg := LF_X11_allSeenIsSo 90 (0 : Int32) σ
noncomputable def LB_X11_who_4 (rec : Int32 → Int32 → Sg → Int32 × Sg) (x1 : Int32) (x2 : Int32) (σ : Sg) : Int32 × Sg := (if (gi σ 1 1) ≤ x2 then (x1, σ) else fl (F_X1_becomes 33 1 σ) (fun σ2 => fl (si σ2 39 x2.toNatClampNeg ((gi σ2 39 x2.toNatClampNeg) + (3 : Int32))) (fun σ5 => fb (F_X11_allSeenIsSo σ5) (fun r7 σ6 => (if r7 = 0 then fl (x2 + 1) (fun v9 => rec x1 v9 σ6) else fl (x1 ||| ((1 : Int32) <<< (x2 &&& 31))) (fun v10 => fl (x2 + 1) (fun v11 => rec v10 v11 σ6)))))))
noncomputable def LF_X11_who : Nat → Int32 → Int32 → Sg → Int32 × Sg
  | 0, _, _, σ => (0, σ)
  | n + 1, x1, x2, σ => LB_X11_who_4 (LF_X11_who n) x1 x2 σ
noncomputable def F_X11_who (σ : Sg) : Int32 × Sg := LF_X11_who 9 (0 : Int32) (0 : Int32) σ
noncomputable def LB_X11_lowest_8 (rec : Nat → Int32 → Int32 → Int32 → Int32 → Int32 → Int32 → Sg → Int64 × Sg) (x0 : Int32) (x1 : Int32) (x2 : Int32) (x3 : Int32) (x4 : Int32) (x5 : Int32) (σ : Sg) : Int64 × Sg := (if (100 : Int32) ≤ x5 then rec 1 x0 x1 x2 x3 0 0 σ else (if x4 ≤ 0 then rec 1 x0 x1 x2 x3 0 0 σ else fl (x3 - x3 / x4 * x4) (fun v4 => fl (x5 + 1) (fun v5 => rec 0 x0 x1 x2 x4 v4 v5 σ))))
noncomputable def LB_X11_lowest_39 (rec : Nat → Int32 → Int32 → Int32 → Int32 → Int32 → Int32 → Sg → Int64 × Sg) (x0 : Int32) (x1 : Int32) (x2 : Int32) (x3 : Int32) (σ : Sg) : Int64 × Sg := (if (1 : Int32) ≤ x3 then (if x2 = 0 then ((x0 / x3).toInt64, σ) else ((x1 / x3).toInt64, σ)) else ((-9223372036854775808 : Int64), σ))
noncomputable def LF_X11_lowest : Nat → Nat → Int32 → Int32 → Int32 → Int32 → Int32 → Int32 → Sg → Int64 × Sg
  | 0, _, _, _, _, _, _, _, σ => (0, σ)
  | n + 1, 0, x0, x1, x2, x3, x4, x5, σ => LB_X11_lowest_8 (LF_X11_lowest n) x0 x1 x2 x3 x4 x5 σ
  | n + 1, 1, x0, x1, x2, x3, _, _, σ => LB_X11_lowest_39 (LF_X11_lowest n) x0 x1 x2 x3 σ
  | _ + 1, _ + 2, _, _, _, _, _, _, σ => (0, σ)
noncomputable def F_X11_lowest (a1 : Int32) (a2 : Int32) (a3 : Int32) (σ : Sg) : Int64 × Sg := LF_X11_lowest 200 0 a1 a2 a3 a2 a1 (0 : Int32) σ
noncomputable def LB_X11_odds_38 (rec : Int32 → Int32 → Int32 → Int32 → Int32 → Sg → Int64 × Sg) (x1 : Int32) (x2 : Int32) (x3 : Int32) (x4 : Int32) (x5 : Int32) (σ : Sg) : Int64 × Sg := (if (gi σ 1 1) ≤ x5 then fb (F_X11_lowest x4 (gi σ 1 1) x3 σ) (fun r3 σ2 => (r3, σ2)) else fl (F_X1_becomes 33 1 σ) (fun σ4 => fl (si σ4 39 x5.toNatClampNeg ((gi σ4 39 x5.toNatClampNeg) + (5 : Int32))) (fun σ7 => fb (F_X11_heldTimes x1 x2 σ7) (fun r9 σ8 => (if r9 ≤ 0 then fl (x5 + 1) (fun v11 => rec x1 x2 x3 x4 v11 σ8) else fl (x4 + 1) (fun v12 => fl (x5 + 1) (fun v13 => rec x1 x2 x3 v12 v13 σ8)))))))
noncomputable def LF_X11_odds : Nat → Int32 → Int32 → Int32 → Int32 → Int32 → Sg → Int64 × Sg
  | 0, _, _, _, _, _, σ => (0, σ)
  | n + 1, x1, x2, x3, x4, x5, σ => LB_X11_odds_38 (LF_X11_odds n) x1 x2 x3 x4 x5 σ
noncomputable def F_X11_odds (a1 : Int32) (a2 : Int32) (a3 : Int32) (σ : Sg) : Int64 × Sg := fb (F_X11_isMower a1 σ) (fun r2 σ1 => (if r2 = 0 then ((-9223372036854775808 : Int64), σ1) else (if a2 < (1 : Int32) then ((-9223372036854775808 : Int64), σ1) else (if (60 : Int32) < a2 then ((-9223372036854775808 : Int64), σ1) else (if a3 = 0 then LF_X11_odds 9 a1 a2 a3 (0 : Int32) (0 : Int32) σ1 else (if a3 = (1 : Int32) then LF_X11_odds 9 a1 a2 a3 (0 : Int32) (0 : Int32) σ1 else ((-9223372036854775808 : Int64), σ1)))))))
noncomputable def LB_X11_mean_34 (rec : Int32 → Int32 → Sg → Int64 × Sg) (x1 : Int32) (x2 : Int32) (σ : Sg) : Int64 × Sg := fl (F_X1_becomes 33 1 σ) (fun σ1 => fl (F_X1_goes 33 x1 σ1) (fun σ2 => fb (F_X1_allAt 33 σ2) (fun r4 σ3 => fb (F_X11_lowest r4 (gi σ3 1 1) x2 σ3) (fun r6 σ5 => (r6, σ5)))))
noncomputable def LF_X11_mean : Nat → Int32 → Int32 → Sg → Int64 × Sg
  | 0, _, _, σ => (0, σ)
  | n + 1, x1, x2, σ => LB_X11_mean_34 (LF_X11_mean n) x1 x2 σ
noncomputable def F_X11_mean (a1 : Int32) (a2 : Int32) (σ : Sg) : Int64 × Sg := (if (gi σ 1 1) = 0 then ((-9223372036854775808 : Int64), σ) else (if a1 < (1 : Int32) then ((-9223372036854775808 : Int64), σ) else (if (60 : Int32) < a1 then ((-9223372036854775808 : Int64), σ) else (if a2 = 0 then LF_X11_mean 9 a1 a2 σ else (if a2 = (1 : Int32) then LF_X11_mean 9 a1 a2 σ else ((-9223372036854775808 : Int64), σ))))))
/-! E at a mower: its signs over a pile of truths -/
noncomputable def tvl (L : Nat → Int) (q : Nat × Nat × Nat) : Bool := if q.2.1 = 0 then decide (L q.1 < (q.2.2 : Int)) else if q.2.1 = 1 then decide (L q.1 = (q.2.2 : Int)) else decide ((q.2.2 : Int) < L q.1)
noncomputable def estep (L : Nat → Int) : Tok → List Bool → List Bool
  | Sum.inl q, S => tvl L q :: S
  | Sum.inr 0, b :: S => (!b) :: S
  | Sum.inr 1, a :: b :: S => (b && a) :: S
  | Sum.inr (_ + 2), a :: b :: S => (b || a) :: S
  | Sum.inr _, S => S
noncomputable def eall (L : Nat → Int) : List Tok → List Bool → List Bool
  | [], S => S
  | t :: ts, S => eall L ts (estep L t S)
noncomputable def bts : List Bool → Nat
  | [] => 0
  | b :: S => 2 * bts S + (if b = true then 1 else 0)
noncomputable def bI (b : Bool) : Int32 := if b = true then 1 else 0
theorem bts_lt : ∀ S, bts S < 2 ^ S.length := by
  intro S
  induction S with
  | nil => decide
  | cons b S ih =>
    show 2 * bts S + (if b = true then 1 else 0) < 2 ^ (S.length + 1)
    rw [Nat.pow_succ]
    cases b
    · rw [if_neg (by decide +kernel)]; omega
    · rw [if_pos rfl]; omega
theorem bts_11 {S : List Bool} {k : Nat} (h : S.length ≤ k) : bts S < 2 ^ k := Nat.lt_of_lt_of_le (bts_lt S) (Nat.pow_le_pow_right (by decide +kernel) h)
theorem all_r {n : Nat} {p : Nat → Bool} (h : (List.range n).all p = true) (k : Nat) (hk : k < n) : p k = true := List.all_eq_true.mp h k (List.mem_range.mpr hk)
theorem tb_xor (n : Nat) (hn : n < 2048) : (Int32.ofNat n ^^^ (1 : Int32)) = Int32.ofNat (if n % 2 = 0 then n + 1 else n - 1) :=
  of_decide_eq_true (all_r (p := fun n => decide ((Int32.ofNat n ^^^ (1 : Int32)) = Int32.ofNat (if n % 2 = 0 then n + 1 else n - 1))) (by decide +kernel) n hn)
theorem tb_low (n : Nat) (hn : n < 2048) : (Int32.ofNat n &&& (1 : Int32)) = Int32.ofNat (n % 2) ∧ (Int32.ofNat n >>> ((1 : Int32) &&& 31)) = Int32.ofNat (n / 2) :=
  of_decide_eq_true (all_r (p := fun n => decide ((Int32.ofNat n &&& (1 : Int32)) = Int32.ofNat (n % 2) ∧ (Int32.ofNat n >>> ((1 : Int32) &&& 31)) = Int32.ofNat (n / 2))) (by decide +kernel) n hn)
theorem tb_op (n : Nat) (hn : n < 2048) : (Int32.ofNat n ||| Int32.ofNat 0) = Int32.ofNat n ∧ (Int32.ofNat n ||| Int32.ofNat 1) = Int32.ofNat (n - n % 2 + 1) ∧ (Int32.ofNat n &&& ((-2 : Int32) ||| Int32.ofNat 0)) = Int32.ofNat (n - n % 2) ∧ (Int32.ofNat n &&& ((-2 : Int32) ||| Int32.ofNat 1)) = Int32.ofNat n :=
  of_decide_eq_true (all_r (p := fun n => decide ((Int32.ofNat n ||| Int32.ofNat 0) = Int32.ofNat n ∧ (Int32.ofNat n ||| Int32.ofNat 1) = Int32.ofNat (n - n % 2 + 1) ∧ (Int32.ofNat n &&& ((-2 : Int32) ||| Int32.ofNat 0)) = Int32.ofNat (n - n % 2) ∧ (Int32.ofNat n &&& ((-2 : Int32) ||| Int32.ofNat 1)) = Int32.ofNat n)) (by decide +kernel) n hn)
theorem tb_push (n : Nat) (hn : n < 1024) : ((Int32.ofNat n <<< ((1 : Int32) &&& 31)) ||| (0 : Int32)) = Int32.ofNat (2 * n) ∧ ((Int32.ofNat n <<< ((1 : Int32) &&& 31)) ||| (1 : Int32)) = Int32.ofNat (2 * n + 1) :=
  of_decide_eq_true (all_r (p := fun n => decide (((Int32.ofNat n <<< ((1 : Int32) &&& 31)) ||| (0 : Int32)) = Int32.ofNat (2 * n) ∧ ((Int32.ofNat n <<< ((1 : Int32) &&& 31)) ||| (1 : Int32)) = Int32.ofNat (2 * n + 1))) (by decide +kernel) n hn)
theorem ln1 {S : List Bool} (h : 1 ≤ S.length) : ∃ b T, S = b :: T := by
  cases S with
  | nil => exact absurd h (by decide +kernel)
  | cons b T => exact ⟨b, T, rfl⟩
theorem ln2 {S : List Bool} (h : 2 ≤ S.length) : ∃ a b T, S = a :: b :: T := by
  obtain ⟨a, T, rfl⟩ := ln1 (S := S) (by omega)
  obtain ⟨b, T, rfl⟩ := ln1 (S := T) (by have : (a :: T).length = T.length + 1 := rfl; omega)
  exact ⟨a, b, T, rfl⟩
set_option maxHeartbeats 4000000 in
theorem holdsC {c0 a3 : Nat} {L : Nat → Int} {σ : Sg} (hL : ∀ f, f ≤ 5 → (gi σ a3 f).toInt = L f) (hLb : ∀ f, f ≤ 5 → 0 ≤ L f ∧ L f ≤ 200000) (h4 : (gi σ c0 4).toInt ≤ 100) {x2 : Int32} (hx2 : x2.toInt ≤ (gi σ c0 4).toInt) :
    ∀ (ts : List Tok) (S : List Bool) (n : Nat) (x4 x5 z : Int32) (i : Nat), Wf 11 S.length ts 1 → S.length ≤ 11 → x4 = Int32.ofNat (bts S) → x5.toInt = (i : Int) → x2.toInt = ((i + ts.length : Nat) : Int) → (∀ j t, ts[j]? = some t → gi σ (c0 + 1) (i + j) = encC t) → 2 * ts.length + 2 ≤ n →
      LF_X2_holds c0 a3 n 0 x2 x4 x5 z σ = (bI ((eall L ts S).headD false), σ) := by
  intro ts
  induction ts with
  | nil =>
    intro S n x4 x5 z i hw hl e4 e5 e2 _ hn
    obtain ⟨n, rfl⟩ : ∃ k, n = k + 2 := ⟨n - 2, by have : ([] : List Tok).length = 0 := rfl; omega⟩
    have hw : S.length = 1 := hw
    have e2 : x2.toInt = (i : Int) := e2
    obtain ⟨b, T, rfl⟩ := ln1 (S := S) (by omega)
    have hT : T = [] := List.length_eq_zero_iff.mp (by have : (b :: T).length = T.length + 1 := rfl; omega)
    subst hT
    show LB_X2_holds_6 c0 a3 (LF_X2_holds c0 a3 (n + 1)) x2 x4 x5 σ = _
    unfold LB_X2_holds_6
    rw [if_pos (Int32.le_iff_toInt_le.mpr (by omega))]
    show LB_X2_holds_187 c0 a3 (LF_X2_holds c0 a3 n) x4 σ = _
    unfold LB_X2_holds_187
    rw [e4]
    cases b
    · rw [if_neg (show ¬ (Int32.ofNat (bts [false]) &&& (1 : Int32)) = 1 by decide +kernel)]; rfl
    · rw [if_pos (show (Int32.ofNat (bts [true]) &&& (1 : Int32)) = 1 by decide +kernel)]; rfl
  | cons t ts ih =>
    intro S n x4 x5 z i hw hl e4 e5 e2 hc hn
    rw [List.length_cons] at e2 hn
    obtain ⟨n, rfl⟩ : ∃ k, n = k + 2 := ⟨n - 2, by omega⟩
    have g : gi σ (c0 + 1) i = encC t := hc 0 t rfl
    have nx : ∀ j t', ts[j]? = some t' → gi σ (c0 + 1) (i + 1 + j) = encC t' := fun j t' h => by
      have := hc (j + 1) t' h
      rw [show i + (j + 1) = i + 1 + j from by omega] at this
      exact this
    have t9 : (x5 + (1 : Int32)).toInt = x5.toInt + 1 := i_add (y := (1 : Int32)) (by show (_ : Int) ≤ x5.toInt + 1; omega) (by show x5.toInt + 1 ≤ (_ : Int); omega)
    have ec := cl_eq (x := x5) (by omega)
    show LB_X2_holds_6 c0 a3 (LF_X2_holds c0 a3 (n + 1)) x2 x4 x5 σ = _
    unfold LB_X2_holds_6
    rw [if_neg (show ¬ x2 ≤ x5 from fun h9 => by have := Int32.le_iff_toInt_le.mp h9; omega), if_neg (show ¬ gi σ c0 4 ≤ x5 from fun h9 => by have := Int32.le_iff_toInt_le.mp h9; omega), show x5.toNatClampNeg = i from by omega, g, fl_e]
    cases t with
    | inl q =>
      obtain ⟨f, s, m⟩ := q
      rw [Wf_l] at hw
      obtain ⟨w1, w2, w3, w4, w5⟩ := hw
      replace w2 : f ≤ 5 := w2
      replace w3 : s ≤ 2 := w3
      replace w4 : m ≤ 99 := w4
      obtain ⟨v, hv⟩ : ∃ v, v = encC (Sum.inl (f, s, m)) := ⟨_, rfl⟩
      have ev : v.toInt = ((f * 300 + s * 100 + m : Nat) : Int) := by rw [hv]; exact Int32.toInt_ofNat_of_lt (by omega)
      rw [← hv, if_neg (show ¬ v < 0 from fun h9 => by have := Int32.lt_iff_toInt_lt.mp h9; have z0 : (0 : Int32).toInt = 0 := rfl; omega), fl_e, fl_e]
      have d3 : (v / (300 : Int32)).toInt = (f : Int) := by rw [i_div (k := 300) (by omega) (by decide +kernel) rfl, ev]; omega
      have dn : (v / (300 : Int32)).toNatClampNeg = f := by have := cl_eq (x := v / (300 : Int32)) (by omega); omega
      have dm : (v - v / (100 : Int32) * (100 : Int32)).toInt = (m : Int) := by rw [i_rem (k := 100) (by omega) (by decide +kernel) rfl, ev]; omega
      have d1 : (v / (100 : Int32)).toInt = ((f * 3 + s : Nat) : Int) := by rw [i_div (k := 100) (by omega) (by decide +kernel) rfl, ev]; omega
      have ds : ((v / (100 : Int32)) - (v / (100 : Int32)) / (3 : Int32) * (3 : Int32)).toInt = (s : Int) := by rw [i_rem (k := 3) (by omega) (by decide +kernel) rfl, d1]; omega
      have lf := hL f w2
      have lb := hLb f w2
      rw [dn]
      have dd : ((gi σ a3 f) - (v - v / (100 : Int32) * (100 : Int32))).toInt = L f - (m : Int) := by rw [i_sub (by omega) (by omega), lf, dm]
      have bs : bts S < 1024 := bts_11 (k := 10) (by omega)
      have push : ∀ b : Bool, LF_X2_holds c0 a3 (n + 1) 2 x2 x4 x5 (bI b) σ = (bI ((eall L ts (b :: S)).headD false), σ) := by
        intro b
        show LB_X2_holds_107 c0 a3 (LF_X2_holds c0 a3 n) x2 x4 x5 (bI b) σ = _
        unfold LB_X2_holds_107
        have p := tb_push (bts S) bs
        cases b
        · rw [if_pos (show bI false = 0 from rfl), fl_e, fl_e]
          exact ih (false :: S) n _ _ 0 (i + 1) w5 w1 (by rw [e4, p.1]; rfl) (by rw [t9]; omega) (by omega) nx (by omega)
        · rw [if_neg (show ¬ bI true = 0 by decide +kernel), fl_e, fl_e]
          exact ih (true :: S) n _ _ 0 (i + 1) w5 w1 (by rw [e4, p.2]; rfl) (by rw [t9]; omega) (by omega) nx (by omega)
      show _ = (bI ((eall L ts (tvl L (f, s, m) :: S)).headD false), σ)
      rw [← push]
      have z0 : (0 : Int32).toInt = 0 := rfl
      have z1 : (1 : Int32).toInt = 1 := rfl
      obtain ⟨v17, h17⟩ : ∃ v17, v17 = (gi σ a3 f) - (v - v / (100 : Int32) * (100 : Int32)) := ⟨_, rfl⟩
      obtain ⟨v18, h18⟩ : ∃ v18, v18 = (v / (100 : Int32)) - (v / (100 : Int32)) / (3 : Int32) * (3 : Int32) := ⟨_, rfl⟩
      rw [← h17] at dd ⊢
      rw [← h18] at ds ⊢
      rcases (show s = 0 ∨ s = 1 ∨ s = 2 by omega) with rfl | rfl | rfl
      · rw [if_pos (show v18 = 0 from Int32.toInt_inj.mp (by omega)), show tvl L (f, 0, m) = decide (L f < (m : Int)) from rfl]
        by_cases q : L f < (m : Int)
        · rw [if_neg (show ¬ 0 ≤ v17 from fun h9 => by have := Int32.le_iff_toInt_le.mp h9; omega), decide_eq_true q]; rfl
        · rw [if_pos (show 0 ≤ v17 from Int32.le_iff_toInt_le.mpr (by omega)), decide_eq_false q]; rfl
      · rw [if_neg (show ¬ v18 = 0 from fun h9 => by rw [h9] at ds; omega), if_pos (show v18 = (1 : Int32) from Int32.toInt_inj.mp (by omega)), show tvl L (f, 1, m) = decide (L f = (m : Int)) from rfl]
        by_cases q : L f = (m : Int)
        · rw [if_pos (show v17 = 0 from Int32.toInt_inj.mp (by omega)), decide_eq_true q]; rfl
        · rw [if_neg (show ¬ v17 = 0 from fun h9 => by rw [h9] at dd; omega), decide_eq_false q]; rfl
      · rw [if_neg (show ¬ v18 = 0 from fun h9 => by rw [h9] at ds; omega), if_neg (show ¬ v18 = (1 : Int32) from fun h9 => by rw [h9] at ds; omega), show tvl L (f, 2, m) = decide ((m : Int) < L f) from rfl]
        by_cases q : (m : Int) < L f
        · rw [if_neg (show ¬ v17 ≤ 0 from fun h9 => by have := Int32.le_iff_toInt_le.mp h9; omega), decide_eq_true q]; rfl
        · rw [if_pos (show v17 ≤ 0 from Int32.le_iff_toInt_le.mpr (by omega)), decide_eq_false q]; rfl
    | inr k =>
      rw [Wf_r] at hw
      by_cases k0 : k = 0
      · subst k0
        rw [if_pos rfl] at hw
        obtain ⟨b, T, rfl⟩ := ln1 hw.1
        have bs : bts (b :: T) < 2048 := bts_11 (k := 11) hl
        have x := tb_xor _ bs
        rw [show encC (Sum.inr 0) = (-1 : Int32) from rfl, if_pos (show (-1 : Int32) < 0 by decide +kernel), if_pos rfl, fl_e, fl_e]
        show _ = (bI ((eall L ts ((!b) :: T)).headD false), σ)
        refine ih ((!b) :: T) (n + 1) _ _ 0 (i + 1) hw.2 hl ?_ (by rw [t9]; omega) (by omega) nx (by omega)
        rw [e4, x]
        cases b
        · show Int32.ofNat (if (2 * bts T + 0) % 2 = 0 then 2 * bts T + 0 + 1 else 2 * bts T + 0 - 1) = Int32.ofNat (2 * bts T + 1)
          rw [if_pos (by omega)]
        · show Int32.ofNat (if (2 * bts T + 1) % 2 = 0 then 2 * bts T + 1 + 1 else 2 * bts T + 1 - 1) = Int32.ofNat (2 * bts T + 0)
          rw [if_neg (by omega)]; rfl
      · rw [if_neg k0] at hw
        obtain ⟨a, b, T, rfl⟩ := ln2 hw.1
        have bs : bts (a :: b :: T) < 2048 := bts_11 (k := 11) hl
        have bs2 : bts (b :: T) < 2048 := bts_11 (k := 11) (by have : (a :: b :: T).length = (b :: T).length + 1 := rfl; omega)
        obtain ⟨l1, l2⟩ := tb_low _ bs
        obtain ⟨o1, o2, o3, o4⟩ := tb_op _ bs2
        have hl2 : (b :: T).length ≤ 11 := by have : (a :: b :: T).length = (b :: T).length + 1 := rfl; omega
        have m2 : bts (a :: b :: T) / 2 = bts (b :: T) := by
          show (2 * bts (b :: T) + (if a = true then 1 else 0)) / 2 = _
          cases a
          · rw [if_neg (by decide +kernel)]; omega
          · rw [if_pos rfl]; omega
        have m1 : bts (a :: b :: T) % 2 = if a = true then 1 else 0 := by
          show (2 * bts (b :: T) + (if a = true then 1 else 0)) % 2 = _
          cases a
          · rw [if_neg (by decide +kernel)]; omega
          · rw [if_pos rfl]; omega
        rw [m1] at l1
        rw [m2] at l2
        have bb : bts (b :: T) - bts (b :: T) % 2 = 2 * bts T := by
          show (2 * bts T + (if b = true then 1 else 0)) - (2 * bts T + (if b = true then 1 else 0)) % 2 = _
          cases b
          · rw [if_neg (by decide +kernel)]; omega
          · rw [if_pos rfl]; omega
        rw [bb] at o2 o3
        rcases (show k = 1 ∨ ∃ j, k = j + 2 from by
          by_cases h : k = 1
          · exact Or.inl h
          · exact Or.inr ⟨k - 2, by omega⟩) with rfl | ⟨j, rfl⟩
        · rw [show encC (Sum.inr 1) = (-2 : Int32) from rfl, if_pos (show (-2 : Int32) < 0 by decide +kernel), if_neg (show ¬ (-2 : Int32) = -1 by decide +kernel), fl_e, fl_e, if_neg (show ¬ (-2 : Int32) = -3 by decide +kernel), fl_e, fl_e]
          show _ = (bI ((eall L ts ((b && a) :: T)).headD false), σ)
          refine ih ((b && a) :: T) (n + 1) _ _ 0 (i + 1) hw.2 hl2 ?_ (by rw [t9]; omega) (by omega) nx (by omega)
          rw [e4, l1, l2]
          cases a
          · rw [if_neg (by decide +kernel), o3, Bool.and_false]; rfl
          · rw [if_pos rfl, o4, Bool.and_true]
        · rw [show encC (Sum.inr (j + 2)) = (-3 : Int32) from rfl, if_pos (show (-3 : Int32) < 0 by decide +kernel), if_neg (show ¬ (-3 : Int32) = -1 by decide +kernel), fl_e, fl_e, if_pos rfl, fl_e, fl_e]
          show _ = (bI ((eall L ts ((b || a) :: T)).headD false), σ)
          refine ih ((b || a) :: T) (n + 1) _ _ 0 (i + 1) hw.2 hl2 ?_ (by rw [t9]; omega) (by omega) nx (by omega)
          rw [e4, l1, l2]
          cases a
          · rw [if_neg (by decide +kernel), o1, Bool.or_false]
          · rw [if_pos rfl, o2, Bool.or_true]; rfl
/-! the model's E at a mower -/
noncomputable def FXp (σ σ' : Sg) : Prop := FX (fun id => id = 129) (fun _ _ => False) σ σ'
theorem FXp_rf {σ : Sg} : FXp σ σ := FX_rf
theorem FXp_tr {σ σ1 σ2 : Sg} (f : FXp σ σ1) (g : FXp σ1 σ2) : FXp σ σ2 := FX_tr f g (fun _ h => h) (fun _ _ h => Or.inr h)
theorem FXp_i {σ σ1 : Sg} (f : FXp σ σ1) {id k : Nat} (h : id ≠ 129) : gi σ1 id k = gi σ id k := FX_i f h (fun z => z)
theorem FXp_s {σ : Sg} {k : Nat} {v : Int32} : FXp σ (si σ 129 k v) := FX_si FX_rf (Or.inl rfl)
noncomputable def WSp (σ : Sg) : Nat → List Bool → Prop
  | 0, [] => True
  | n + 1, b :: S => gi σ 129 n = bI b ∧ WSp σ n S
  | _, _ => False
theorem WSp_up {σ : Sg} {k : Nat} {v : Int32} : ∀ n S, n ≤ k → WSp σ n S → WSp (si σ 129 k v) n S := by
  intro n
  induction n with
  | zero => intro S _; cases S <;> exact id
  | succ n ih =>
    intro S hk
    cases S with
    | nil => exact id
    | cons b S => exact fun w => ⟨by rw [gi_si_ne (Or.inr (by omega))]; exact w.1, ih S (by omega) w.2⟩
theorem nz0 : vp_nar .boolean (0 : Int32) = bI false := by decide +kernel
theorem nz1 : vp_nar .boolean (1 : Int32) = bI true := by decide +kernel
/-- a test at a mower, as the model asks it -/
noncomputable def FCM (L : Nat → Int) (x2 : Int32) (σ : Sg) : Prop := ∀ τ, FXp σ τ → ∀ (x : Int32) (f : Nat), x.toInt = (f : Int) → f ≤ 5 → ∃ r, F_X12_factOf x x2 τ = (r, τ) ∧ r.toInt = L f
theorem FCM_p {L : Nat → Int} {x2 : Int32} {σ σ1 : Sg} (h : FCM L x2 σ) (f : FXp σ σ1) : FCM L x2 σ1 := fun τ g => h τ (FXp_tr f g)
set_option maxHeartbeats 4000000 in
theorem holdsM {c : Nat} {L : Nat → Int} {x1 x2 : Int32} (hc1 : x1.toNatClampNeg = c) :
    ∀ (ts : List Tok) (S : List Bool) (n : Nat) (x3 x4 : Int32) (i : Nat) (σ : Sg), Wf 11 S.length ts 1 → S.length ≤ 11 → x3.toInt = (S.length : Int) → x4.toInt = (i : Int) → (gi σ 121 c).toInt = ((i + ts.length : Nat) : Int) → i + ts.length ≤ 700 → (∀ j t, ts[j]? = some t → gi σ 122 (i + j) = encM t) → WSp σ S.length S → FCM L x2 σ → ts.length < n →
      ∃ σ', LF_X12_holds n x1 x2 x3 x4 σ = (bI ((eall L ts S).headD false), σ') ∧ FXp σ σ' := by
  intro ts
  induction ts with
  | nil =>
    intro S n x3 x4 i σ hw hl e3 e4 e1 hi _ hS hF hn
    obtain ⟨n, rfl⟩ : ∃ k, n = k + 1 := ⟨n - 1, by omega⟩
    have hw : S.length = 1 := hw
    have e1 : (gi σ 121 c).toInt = (i : Int) := e1
    obtain ⟨b, T, rfl⟩ := ln1 (S := S) (by omega)
    have hT : T = [] := List.length_eq_zero_iff.mp (by have : (b :: T).length = T.length + 1 := rfl; omega)
    subst hT
    refine ⟨σ, ?_, FXp_rf⟩
    show LB_X12_holds_10 (LF_X12_holds n) x1 x2 x3 x4 σ = _
    unfold LB_X12_holds_10
    rw [hc1, if_pos (show gi σ 121 c ≤ x4 from Int32.le_iff_toInt_le.mpr (by omega))]
    rw [show gi σ 129 (0 : Int32).toNatClampNeg = bI b from hS.1]
    rfl
  | cons t ts ih =>
    intro S n x3 x4 i σ hw hl e3 e4 e1 hi hc hS hF hn
    rw [List.length_cons] at e1 hi hn
    obtain ⟨n, rfl⟩ : ∃ k, n = k + 1 := ⟨n - 1, by omega⟩
    have g : gi σ 122 i = encM t := hc 0 t rfl
    have t9 : (x4 + (1 : Int32)).toInt = x4.toInt + 1 := i_add (y := (1 : Int32)) (by show (_ : Int) ≤ x4.toInt + 1; omega) (by show x4.toInt + 1 ≤ (_ : Int); omega)
    have t8 : (x3 + (1 : Int32)).toInt = x3.toInt + 1 := i_add (y := (1 : Int32)) (by show (_ : Int) ≤ x3.toInt + 1; omega) (by show x3.toInt + 1 ≤ (_ : Int); omega)
    have ec := cl_eq (x := x4) (by omega)
    have e3c := cl_eq (x := x3) (by omega)
    have nx : ∀ σ1, FXp σ σ1 → ∀ j t', ts[j]? = some t' → gi σ1 122 (i + 1 + j) = encM t' := fun σ1 f j t' h => by
      have := hc (j + 1) t' h
      rw [show i + (j + 1) = i + 1 + j from by omega] at this
      rw [FXp_i f (by decide +kernel)]
      exact this
    have e1x : ∀ σ1, FXp σ σ1 → (gi σ1 121 c).toInt = ((i + 1 + ts.length : Nat) : Int) := fun σ1 f => by rw [FXp_i f (by decide +kernel)]; omega
    show ∃ σ', LB_X12_holds_10 (LF_X12_holds n) x1 x2 x3 x4 σ = _ ∧ _
    unfold LB_X12_holds_10
    rw [hc1, if_neg (show ¬ gi σ 121 c ≤ x4 from fun h9 => by have := Int32.le_iff_toInt_le.mp h9; omega), show x4.toNatClampNeg = i from by omega, g, fl_e]
    cases t with
    | inl q =>
      obtain ⟨f, s, m⟩ := q
      rw [Wf_l] at hw
      obtain ⟨w1, w2, w3, w4, w5⟩ := hw
      replace w2 : f ≤ 5 := w2
      replace w3 : s ≤ 2 := w3
      replace w4 : m ≤ 99 := w4
      obtain ⟨v, hv⟩ : ∃ v, v = encM (Sum.inl (f, s, m)) := ⟨_, rfl⟩
      have ev : v.toInt = ((f * 1000 + s * 100 + m : Nat) : Int) := by rw [hv]; exact Int32.toInt_ofNat_of_lt (by omega)
      have z0 : (0 : Int32).toInt = 0 := rfl
      have z1 : (1 : Int32).toInt = 1 := rfl
      have z33 : (-33 : Int32).toInt = -33 := rfl
      have d3 : (v / (1000 : Int32)).toInt = (f : Int) := by rw [i_div (k := 1000) (by omega) (by decide +kernel) rfl, ev]; omega
      obtain ⟨r9, f1, f2⟩ := hF σ FXp_rf _ f d3 w2
      rw [← hv, if_neg (show ¬ v = (-33 : Int32) from fun h9 => by rw [h9] at ev; omega), if_pos (show (0 : Int32) ≤ v from Int32.le_iff_toInt_le.mpr (by omega)), f1, fb_e, fl_e]
      have dm : (v - v / (100 : Int32) * (100 : Int32)).toInt = (m : Int) := by rw [i_rem (k := 100) (by omega) (by decide +kernel) rfl, ev]; omega
      have d1 : (v / (100 : Int32)).toInt = ((f * 10 + s : Nat) : Int) := by rw [i_div (k := 100) (by omega) (by decide +kernel) rfl, ev]; omega
      have ds : ((v / (100 : Int32)) - (v / (100 : Int32)) / (10 : Int32) * (10 : Int32)).toInt = (s : Int) := by rw [i_rem (k := 10) (by omega) (by decide +kernel) rfl, d1]; omega
      obtain ⟨v17, h17⟩ : ∃ v17, v17 = (v - v / (100 : Int32) * (100 : Int32)) := ⟨_, rfl⟩
      obtain ⟨v18, h18⟩ : ∃ v18, v18 = (v / (100 : Int32)) - (v / (100 : Int32)) / (10 : Int32) * (10 : Int32) := ⟨_, rfl⟩
      rw [← h17] at dm ⊢
      rw [← h18] at ds ⊢
      have push : ∀ b : Bool, ∃ σ', LF_X12_holds n x1 x2 (x3 + 1) (x4 + 1) (si σ 129 x3.toNatClampNeg (bI b)) = (bI ((eall L ts (b :: S)).headD false), σ') ∧ FXp σ σ' := by
        intro b
        obtain ⟨σ', k1, k2⟩ := ih (b :: S) n (x3 + 1) (x4 + 1) (i + 1) (si σ 129 x3.toNatClampNeg (bI b)) w5 w1 (by rw [t8]; show x3.toInt + 1 = ((S.length + 1 : Nat) : Int); omega) (by rw [t9]; omega) (e1x _ FXp_s) (by omega) (nx _ FXp_s) (by
          show WSp _ (S.length + 1) (b :: S)
          rw [show x3.toNatClampNeg = S.length from by omega]
          exact ⟨by rw [gi_si_eq], WSp_up _ _ (Nat.le_refl _) hS⟩) (FCM_p hF FXp_s) (by omega)
        exact ⟨σ', k1, FXp_tr FXp_s k2⟩
      show ∃ σ', _ = (bI ((eall L ts (tvl L (f, s, m) :: S)).headD false), σ') ∧ _
      rcases (show s = 0 ∨ s = 1 ∨ s = 2 by omega) with rfl | rfl | rfl
      · rw [if_pos (show v18 = 0 from Int32.toInt_inj.mp (by omega)), show tvl L (f, 0, m) = decide (L f < (m : Int)) from rfl]
        by_cases q : L f < (m : Int)
        · rw [if_neg (show ¬ v17 ≤ r9 from fun h9 => by have := Int32.le_iff_toInt_le.mp h9; omega), decide_eq_true q, fl_e, fl_e, fl_e, nz1]; exact push true
        · rw [if_pos (show v17 ≤ r9 from Int32.le_iff_toInt_le.mpr (by omega)), decide_eq_false q, fl_e, fl_e, fl_e, nz0]; exact push false
      · rw [if_neg (show ¬ v18 = 0 from fun h9 => by rw [h9] at ds; omega), if_pos (show v18 = (1 : Int32) from Int32.toInt_inj.mp (by omega)), show tvl L (f, 1, m) = decide (L f = (m : Int)) from rfl]
        by_cases q : L f = (m : Int)
        · rw [if_pos (show r9 = v17 from Int32.toInt_inj.mp (by omega)), decide_eq_true q, fl_e, fl_e, fl_e, nz1]; exact push true
        · rw [if_neg (show ¬ r9 = v17 from fun h9 => by rw [h9] at f2; omega), decide_eq_false q, fl_e, fl_e, fl_e, nz0]; exact push false
      · rw [if_neg (show ¬ v18 = 0 from fun h9 => by rw [h9] at ds; omega), if_neg (show ¬ v18 = (1 : Int32) from fun h9 => by rw [h9] at ds; omega), show tvl L (f, 2, m) = decide ((m : Int) < L f) from rfl]
        by_cases q : (m : Int) < L f
        · rw [if_neg (show ¬ r9 ≤ v17 from fun h9 => by have := Int32.le_iff_toInt_le.mp h9; omega), decide_eq_true q, fl_e, fl_e, fl_e, nz1]; exact push true
        · rw [if_pos (show r9 ≤ v17 from Int32.le_iff_toInt_le.mpr (by omega)), decide_eq_false q, fl_e, fl_e, fl_e, nz0]; exact push false
    | inr k =>
      rw [Wf_r] at hw
      by_cases k0 : k = 0
      · subst k0
        rw [if_pos rfl] at hw
        obtain ⟨b, T, rfl⟩ := ln1 hw.1
        have t7 : (x3 - (1 : Int32)).toInt = x3.toInt - 1 := i_pred (by omega)
        have el : (b :: T).length = T.length + 1 := rfl
        have ek : (x3 - (1 : Int32)).toNatClampNeg = T.length := by have := cl_eq (x := x3 - (1 : Int32)) (by omega); omega
        rw [show encM (Sum.inr 0) = (-33 : Int32) from rfl, if_pos rfl, ek]
        show ∃ σ', _ = (bI ((eall L ts ((!b) :: T)).headD false), σ') ∧ _
        have go : ∀ b2 : Bool, ∃ σ', LF_X12_holds n x1 x2 x3 (x4 + 1) (si σ 129 T.length (bI b2)) = (bI ((eall L ts (b2 :: T)).headD false), σ') ∧ FXp σ σ' := by
          intro b2
          obtain ⟨σ', k1, k2⟩ := ih (b2 :: T) n x3 (x4 + 1) (i + 1) (si σ 129 T.length (bI b2)) hw.2 hl e3 (by rw [t9]; omega) (e1x _ FXp_s) (by omega) (nx _ FXp_s) (show WSp _ (T.length + 1) (b2 :: T) from ⟨by rw [gi_si_eq], WSp_up _ _ (Nat.le_refl _) hS.2⟩) (FCM_p hF FXp_s) (by omega)
          exact ⟨σ', k1, FXp_tr FXp_s k2⟩
        rw [show gi σ 129 T.length = bI b from hS.1]
        cases b
        · rw [if_pos (show bI false = 0 from rfl), fl_e, fl_e, nz1]; exact go true
        · rw [if_neg (show ¬ bI true = 0 by decide +kernel), fl_e, fl_e, nz0]; exact go false
      · rw [if_neg k0] at hw
        obtain ⟨a, b, T, rfl⟩ := ln2 hw.1
        have el : (a :: b :: T).length = T.length + 2 := rfl
        have t7 : (x3 - (1 : Int32)).toInt = x3.toInt - 1 := i_pred (by omega)
        have t6 : ((x3 - (1 : Int32)) - (1 : Int32)).toInt = (x3 - (1 : Int32)).toInt - 1 := i_pred (by omega)
        have ek : (x3 - (1 : Int32)).toNatClampNeg = T.length + 1 := by have := cl_eq (x := x3 - (1 : Int32)) (by omega); omega
        have ej : ((x3 - (1 : Int32)) - (1 : Int32)).toNatClampNeg = T.length := by have := cl_eq (x := (x3 - (1 : Int32)) - (1 : Int32)) (by omega); omega
        have hl2 : (b :: T).length ≤ 11 := by have : (b :: T).length = T.length + 1 := rfl; omega
        have go : ∀ b2 : Bool, ∃ σ', LF_X12_holds n x1 x2 (x3 - 1) (x4 + 1) (si σ 129 T.length (bI b2)) = (bI ((eall L ts (b2 :: T)).headD false), σ') ∧ FXp σ σ' := by
          intro b2
          obtain ⟨σ', k1, k2⟩ := ih (b2 :: T) n (x3 - 1) (x4 + 1) (i + 1) (si σ 129 T.length (bI b2)) hw.2 hl2 (by rw [t7]; show x3.toInt - 1 = ((T.length + 1 : Nat) : Int); omega) (by rw [t9]; omega) (e1x _ FXp_s) (by omega) (nx _ FXp_s) (show WSp _ (T.length + 1) (b2 :: T) from ⟨by rw [gi_si_eq], WSp_up _ _ (Nat.le_refl _) hS.2.2⟩) (FCM_p hF FXp_s) (by omega)
          exact ⟨σ', k1, FXp_tr FXp_s k2⟩
        have ga : gi σ 129 (T.length + 1) = bI a := hS.1
        have gb : gi σ 129 T.length = bI b := hS.2.1
        rcases (show k = 1 ∨ ∃ j, k = j + 2 from by
          by_cases h : k = 1
          · exact Or.inl h
          · exact Or.inr ⟨k - 2, by omega⟩) with rfl | ⟨j, rfl⟩
        · rw [show encM (Sum.inr 1) = (-38 : Int32) from rfl, if_neg (show ¬ (-38 : Int32) = -33 by decide +kernel), if_neg (show ¬ (0 : Int32) ≤ -38 by decide +kernel), fl_e, if_pos rfl, ek, ej, ga, gb]
          show ∃ σ', _ = (bI ((eall L ts ((b && a) :: T)).headD false), σ') ∧ _
          cases b
          · rw [if_pos (show bI false = 0 from rfl), fl_e, fl_e, nz0]; exact go false
          · rw [if_neg (show ¬ bI true = 0 by decide +kernel)]
            cases a
            · rw [if_pos (show bI false = 0 from rfl), fl_e, fl_e, nz0]; exact go false
            · rw [if_neg (show ¬ bI true = 0 by decide +kernel), fl_e, fl_e, nz1]; exact go true
        · rw [show encM (Sum.inr (j + 2)) = (-124 : Int32) from rfl, if_neg (show ¬ (-124 : Int32) = -33 by decide +kernel), if_neg (show ¬ (0 : Int32) ≤ -124 by decide +kernel), fl_e, if_neg (show ¬ (-124 : Int32) = -38 by decide +kernel), ek, ej, ga, gb]
          show ∃ σ', _ = (bI ((eall L ts ((b || a) :: T)).headD false), σ') ∧ _
          cases b
          · rw [if_pos (show bI false = 0 from rfl)]
            cases a
            · rw [if_pos (show bI false = 0 from rfl), fl_e, fl_e, nz0]; exact go false
            · rw [if_neg (show ¬ bI true = 0 by decide +kernel), fl_e, fl_e, nz1]; exact go true
          · rw [if_neg (show ¬ bI true = 0 by decide +kernel), fl_e, fl_e, nz1]; exact go true
/-! PACE, both ways -/
noncomputable def pstep (L : Nat → Int) (a : Int) (c : Cls) : Int := if c.1 ≤ 1 then (if (eall L c.2.2 []).headD false = true then (if c.1 = 0 then a + (c.2.1 : Int) else a - (c.2.1 : Int)) else a) else a
noncomputable def pos0 (x : Int) : Int := if x ≤ 0 then 0 else x
noncomputable def pacS (L : Nat → Int) (cl : List Cls) : Int := pos0 (cl.foldl (pstep L) 6)
noncomputable def Lt6 (a b c d e g : Int) (f : Nat) : Int := match f with | 0 => a | 1 => b | 2 => c | 3 => d | 4 => e | _ => g
theorem pstep_b {L : Nat → Int} {a k : Int} {c : Cls} (hc : c.2.1 ≤ 99) (h : -k ≤ a ∧ a ≤ k) : -(k + 99) ≤ pstep L a c ∧ pstep L a c ≤ k + 99 := by
  unfold pstep
  repeat' split
  all_goals omega
theorem fold_b {L : Nat → Int} : ∀ (cl : List Cls) (a k : Int), (∀ c ∈ cl, c.2.1 ≤ 99) → -k ≤ a ∧ a ≤ k → -(k + 99 * (cl.length : Int)) ≤ cl.foldl (pstep L) a ∧ cl.foldl (pstep L) a ≤ k + 99 * (cl.length : Int) := by
  intro cl
  induction cl with
  | nil => intro a k _ h; show -(k + 99 * ((0 : Nat) : Int)) ≤ a ∧ a ≤ k + 99 * ((0 : Nat) : Int); omega
  | cons c cl ih =>
    intro a k hc h
    have h1 := pstep_b (L := L) (hc c List.mem_cons_self) h
    have h2 := ih (pstep L a c) (k + 99) (fun d hd => hc d (List.mem_cons_of_mem _ hd)) h1
    rw [List.length_cons, List.foldl_cons]
    omega
theorem pacS_b {L : Nat → Int} {cl : List Cls} (hc : PW cl) (hl : cl.length ≤ 10) : 0 ≤ pacS L cl ∧ pacS L cl ≤ 996 := by
  have h := fold_b (L := L) cl 6 6 (fun c h => (hc c h).2.1) (by omega)
  unfold pacS pos0
  split <;> omega
theorem take_pc {α : Type} {c : α} {l : List α} : ∀ pre : List α, (pre ++ c :: l).take (pre.length + 1) = pre ++ [c] := by
  intro pre
  induction pre with
  | nil => rfl
  | cons x xs ih =>
    show x :: ((xs ++ c :: l).take (xs.length + 1)) = _
    rw [ih]; rfl
theorem get_pc {α : Type} {c : α} {l pre : List α} : (pre ++ c :: l)[pre.length]? = some c := by
  rw [List.getElem?_append_right (Nat.le_refl _), Nat.sub_self]; rfl
theorem toks_ap2 {a b : List Cls} : toksOf (a ++ b) = toksOf a ++ toksOf b := by
  unfold toksOf
  rw [List.map_append, List.flatten_append]
theorem toks_cons {c : Cls} {l : List Cls} : toksOf (c :: l) = c.2.2 ++ toksOf l := by
  unfold toksOf; rw [List.map_cons, List.flatten_cons]
theorem toks_mid {pre l : List Cls} {c : Cls} {j : Nat} {t : Tok} (h : c.2.2[j]? = some t) : (toksOf (pre ++ c :: l))[(toksOf pre).length + j]? = some t := by
  have hj := (List.getElem?_eq_some_iff.mp h).1
  rw [toks_ap2, toks_cons, List.getElem?_append_right (by omega), show (toksOf pre).length + j - (toksOf pre).length = j from by omega, List.getElem?_append_left hj]
  exact h
set_option maxHeartbeats 4000000 in
theorem paceC {c0 a3 : Nat} {L : Nat → Int} {σ : Sg} {cl : List Cls} (hA : FdA σ c0 cl) (hW : PW cl) (hl : cl.length ≤ 10) (hT : (toksOf cl).length ≤ 100) (hL : ∀ f, f ≤ 5 → (gi σ a3 f).toInt = L f) (hLb : ∀ f, f ≤ 5 → 0 ≤ L f ∧ L f ≤ 200000) :
    ∀ (l pre : List Cls) (n : Nat) (x2 x3 x4 z0 z1 : Int32) (a : Int), cl = pre ++ l → x2.toInt = a → -(6 + 99 * (pre.length : Int)) ≤ a ∧ a ≤ 6 + 99 * (pre.length : Int) → x3.toInt = ((toksOf pre).length : Int) → x4.toInt = (pre.length : Int) → 2 * l.length + 2 ≤ n →
      ∃ r, LF_X2_paceOf c0 a3 n 0 x2 x3 x4 z0 z1 σ = (r, σ) ∧ r.toInt = pos0 (l.foldl (pstep L) a) := by
  obtain ⟨⟨a1, a2⟩, -, d1, d2⟩ := hA
  have z0' : (0 : Int32).toInt = 0 := rfl
  have z1' : (1 : Int32).toInt = 1 := rfl
  intro l
  induction l with
  | nil =>
    intro pre n x2 x3 x4 z0 z1 a e hx2 hb hx3 hx4 hn
    rw [List.append_nil] at e
    obtain ⟨n, rfl⟩ : ∃ k, n = k + 1 := ⟨n - 1, by omega⟩
    show ∃ r, LB_X2_paceOf_8 c0 a3 (LF_X2_paceOf c0 a3 n) x2 x3 x4 σ = (r, σ) ∧ r.toInt = pos0 a
    unfold LB_X2_paceOf_8 pos0
    rw [if_pos (show gi σ c0 8 ≤ x4 from Int32.le_iff_toInt_le.mpr (by rw [e] at a1; omega))]
    by_cases q : a ≤ 0
    · rw [if_pos (show x2 ≤ 0 from Int32.le_iff_toInt_le.mpr (by omega)), if_pos q]; exact ⟨_, rfl, rfl⟩
    · rw [if_neg (show ¬ x2 ≤ 0 from fun h9 => by have := Int32.le_iff_toInt_le.mp h9; omega), if_neg q]; exact ⟨_, rfl, hx2⟩
  | cons c l ih =>
    intro pre n x2 x3 x4 z0 z1 a e hx2 hb hx3 hx4 hn
    rw [List.length_cons] at hn
    obtain ⟨n, rfl⟩ : ∃ k, n = k + 2 := ⟨n - 2, by omega⟩
    have hg : cl[pre.length]? = some c := by rw [e]; exact get_pc
    have hcm : c ∈ cl := List.mem_of_getElem? hg
    obtain ⟨w1, w2, w3, w4⟩ := hW c hcm
    obtain ⟨g1, g2, g3⟩ := a2 _ _ hg
    rw [e, take_pc, toksOf_ap, List.length_append] at g3
    have hlen : cl.length = pre.length + (l.length + 1) := by rw [e, List.length_append]; rfl
    have htk : (toksOf cl).length = (toksOf pre).length + (c.2.2.length + (toksOf l).length) := by rw [e, toks_ap2, toks_cons, List.length_append, List.length_append]
    have ec := cl_eq (x := x4) (by omega)
    have ek : x4.toNatClampNeg = pre.length := by omega
    have t9 : (x4 + (1 : Int32)).toInt = x4.toInt + 1 := i_add (y := (1 : Int32)) (by show (_ : Int) ≤ x4.toInt + 1; omega) (by show x4.toInt + 1 ≤ (_ : Int); omega)
    have hpl : ((pre ++ [c]).length : Int) = (pre.length : Int) + 1 := by rw [List.length_append]; show ((pre.length + 1 : Nat) : Int) = _; omega
    have hb2 := pstep_b (L := L) w2 hb
    have next : ∀ (n9 : Nat) (v1 v3 : Int32), v1.toInt = pstep L a c → v3 = gi σ (c0 + 4) pre.length → 2 * l.length + 2 ≤ n9 → ∀ y0 y1, ∃ r, LF_X2_paceOf c0 a3 n9 0 v1 v3 (x4 + 1) y0 y1 σ = (r, σ) ∧ r.toInt = pos0 ((c :: l).foldl (pstep L) a) := by
      intro n9 v1 v3 h1 h3 hn9 y0 y1
      exact ih (pre ++ [c]) n9 v1 v3 (x4 + 1) y0 y1 (pstep L a c) (by rw [e, List.append_assoc]; rfl) h1 (by rw [hpl]; omega) (by rw [h3, g3, toksOf_ap, List.length_append]) (by rw [t9, hpl]; omega) hn9
    show ∃ r, LB_X2_paceOf_8 c0 a3 (LF_X2_paceOf c0 a3 (n + 1)) x2 x3 x4 σ = (r, σ) ∧ _
    unfold LB_X2_paceOf_8
    rw [if_neg (show ¬ gi σ c0 8 ≤ x4 from fun h9 => by have := Int32.le_iff_toInt_le.mp h9; omega), ek]
    by_cases hw : c.1 ≤ 1
    · rw [if_neg (show ¬ (1 : Int32) < gi σ (c0 + 2) pre.length from fun h9 => by have := Int32.lt_iff_toInt_lt.mp h9; omega)]
      have H : F_X2_holds c0 x3 (gi σ (c0 + 4) pre.length) a3 σ = (bI ((eall L c.2.2 []).headD false), σ) := by
        unfold F_X2_holds
        exact holdsC hL hLb (by omega) (by rw [g3, d1]; omega) c.2.2 [] 900 (0 : Int32) x3 0 (toksOf pre).length (w3 hw 0) (by decide +kernel) rfl hx3 (by rw [g3]) (fun j t hj => d2 _ t (by rw [e]; exact toks_mid hj)) (by omega)
      rw [H, fb_e]
      have ps : pstep L a c = if (eall L c.2.2 []).headD false = true then (if c.1 = 0 then a + (c.2.1 : Int) else a - (c.2.1 : Int)) else a := by unfold pstep; rw [if_pos hw]
      by_cases hh : (eall L c.2.2 []).headD false = true
      · rw [if_pos hh] at ps
        rw [hh, if_neg (show ¬ bI true = 0 by decide +kernel)]
        by_cases hz : c.1 = 0
        · rw [if_pos hz] at ps
          rw [if_pos (show gi σ (c0 + 2) pre.length = 0 from Int32.toInt_inj.mp (by omega))]
          show ∃ r, LB_X2_paceOf_73 c0 a3 (LF_X2_paceOf c0 a3 n) x4 (gi σ (c0 + 3) pre.length) x2 σ = (r, σ) ∧ _
          unfold LB_X2_paceOf_73
          rw [ek, fl_e, fl_e, fl_e]
          exact next n _ _ (by rw [i_add (by omega) (by omega), ps]; omega) rfl (by omega) 0 0
        · rw [if_neg hz] at ps
          rw [if_neg (show ¬ gi σ (c0 + 2) pre.length = 0 from fun h9 => by rw [h9] at g1; omega)]
          show ∃ r, LB_X2_paceOf_73 c0 a3 (LF_X2_paceOf c0 a3 n) x4 (-(gi σ (c0 + 3) pre.length)) x2 σ = (r, σ) ∧ _
          unfold LB_X2_paceOf_73
          rw [ek, fl_e, fl_e, fl_e]
          have ng : (-(gi σ (c0 + 3) pre.length)).toInt = -(gi σ (c0 + 3) pre.length).toInt := i_neg (by omega)
          exact next n _ _ (by rw [i_add (by omega) (by omega), ng, ps]; omega) rfl (by omega) 0 0
      · rw [if_neg hh] at ps
        have hh' : (eall L c.2.2 []).headD false = false := Bool.eq_false_iff.mpr hh
        rw [hh', if_pos (show bI false = 0 from rfl), fl_e, fl_e]
        exact next (n + 1) _ _ (by rw [ps]; exact hx2) rfl (by omega) 0 0
    · have ps : pstep L a c = a := by unfold pstep; rw [if_neg hw]
      rw [if_pos (show (1 : Int32) < gi σ (c0 + 2) pre.length from Int32.lt_iff_toInt_lt.mpr (by omega)), fl_e, fl_e]
      exact next (n + 1) _ _ (by rw [ps]; exact hx2) rfl (by omega) 0 0
/-- the clauses that hold in the model -/
noncomputable def MH (σ : Sg) (cl : List Cls) : Prop := ((gi σ 74 12).toInt = -1 ∧ cl = []) ∨ ∃ k : Nat, (gi σ 74 12).toInt = (k : Int) ∧ k ≤ 5 ∧ ClsM σ k cl ∧ (gi σ 117 k).toInt = (cl.length : Int)
noncomputable def bgn (σ : Sg) : Nat := 10 * (gi σ 74 12).toNatClampNeg
theorem MH_beg {σ : Sg} {cl : List Cls} (h : MH σ cl) (hl : cl.length ≤ 10) (hT : (toksOf cl).length ≤ 100) : ∃ r1 r2 : Int32, F_X12_begin σ = (r1, σ) ∧ F_X12_behind σ = (r2, σ) ∧ r1.toInt = (bgn σ : Int) ∧ r2.toInt = (bgn σ : Int) + (cl.length : Int) ∧ bgn σ ≤ 50 ∧ ∀ i c, cl[i]? = some c → (gi σ 118 (bgn σ + i)).toInt = (c.1 : Int) ∧ (gi σ 119 (bgn σ + i)).toInt = (c.2.1 : Int) ∧ (c.1 ≤ 1 → ∃ lo : Nat, lo + c.2.2.length ≤ 600 ∧ (gi σ 120 (bgn σ + i)).toInt = (lo : Int) ∧ (gi σ 121 (bgn σ + i)).toInt = ((lo + c.2.2.length : Nat) : Int) ∧ ∀ j t, c.2.2[j]? = some t → gi σ 122 (lo + j) = encM t) := by
  have z0 : (0 : Int32).toInt = 0 := rfl
  unfold F_X12_begin F_X12_behind
  rcases h with ⟨a, rfl⟩ | ⟨k, a, b, c, d⟩
  · have q : ¬ (0 : Int32) ≤ gi σ 74 12 := fun h9 => by have := Int32.le_iff_toInt_le.mp h9; omega
    have e : bgn σ = 0 := by
      unfold bgn
      have : (gi σ 74 12).toNatClampNeg = 0 := by show (gi σ 74 12).toInt.toNat = 0; omega
      omega
    rw [if_neg q, if_neg q, e]
    exact ⟨_, _, rfl, rfl, rfl, rfl, by decide +kernel, fun i c hi => by rw [List.getElem?_nil] at hi; cases hi⟩
  · have q : (0 : Int32) ≤ gi σ 74 12 := Int32.le_iff_toInt_le.mpr (by omega)
    have ec := cl_eq (x := gi σ 74 12) (by omega)
    have e : (gi σ 74 12).toNatClampNeg = k := by omega
    have m1 : ((10 : Int32) * (gi σ 74 12)).toInt = 10 * (gi σ 74 12).toInt := i_mull rfl (by omega) (by omega)
    have eb : bgn σ = 10 * k := by unfold bgn; rw [e]
    rw [if_pos q, if_pos q, e, eb]
    refine ⟨_, _, rfl, rfl, by rw [m1]; omega, by rw [i_add (by omega) (by omega), m1, d]; omega, by omega, fun i cc hi => ?_⟩
    obtain ⟨p1, p2, p3, p4⟩ := c i cc hi
    have tk := toks_take hi
    exact ⟨p1, p2, fun hw => ⟨_, by omega, (p3 hw).1, (p3 hw).2, p4⟩⟩
theorem MH_eq {σ σ' : Sg} {cl : List Cls} (h1 : gi σ' 74 12 = gi σ 74 12) (h2 : ∀ id k, 117 ≤ id → id ≤ 122 → gi σ' id k = gi σ id k) (h : MH σ cl) : MH σ' cl := by
  rcases h with ⟨a, b⟩ | ⟨k, a, b, c, d⟩
  · exact Or.inl ⟨by rw [h1]; exact a, b⟩
  · exact Or.inr ⟨k, by rw [h1]; exact a, b, ClsM_eq (fun i id _ a b => h2 id _ (by omega) (by omega)) (fun j _ => h2 122 j (by decide +kernel) (by decide +kernel)) c, by rw [h2 117 k (by decide +kernel) (by decide +kernel)]; exact d⟩
theorem bgn_p {σ σ' : Sg} (f : FXp σ σ') : bgn σ' = bgn σ := by unfold bgn; rw [FXp_i f (by decide +kernel)]
theorem MH_p {σ σ' : Sg} {cl : List Cls} (f : FXp σ σ') (h : MH σ cl) : MH σ' cl := MH_eq (FXp_i f (by decide +kernel)) (fun id k a b => FXp_i f (by omega)) h
theorem most0 {x : Int32} {a : Int} {σ : Sg} (h : x.toInt = a) : ∃ r, F_X12_most (0 : Int32) x σ = (r, σ) ∧ r.toInt = pos0 a := by
  have z0 : (0 : Int32).toInt = 0 := rfl
  unfold F_X12_most pos0
  by_cases q : (0 : Int32) ≤ x
  · have := Int32.le_iff_toInt_le.mp q
    rw [if_pos q]
    by_cases q2 : a ≤ 0
    · rw [if_pos q2]; exact ⟨_, rfl, by omega⟩
    · rw [if_neg q2]; exact ⟨_, rfl, h⟩
  · have : ¬ (0 : Int32).toInt ≤ x.toInt := fun h9 => q (Int32.le_iff_toInt_le.mpr h9)
    rw [if_neg q, if_pos (show a ≤ 0 by omega)]
    exact ⟨_, rfl, rfl⟩
set_option maxHeartbeats 4000000 in
theorem paceM {L : Nat → Int} {x1 mm : Int32} {B : Nat} {cl : List Cls} (hW : PW cl) (hl : cl.length ≤ 10) (hT : (toksOf cl).length ≤ 100) :
    ∀ (l pre : List Cls) (n : Nat) (x2 x3 : Int32) (a : Int) (σ : Sg), cl = pre ++ l → MH σ cl → bgn σ = B → gi σ 110 x1.toNatClampNeg = mm → FCM L mm σ → x2.toInt = a → -(6 + 99 * (pre.length : Int)) ≤ a ∧ a ≤ 6 + 99 * (pre.length : Int) → x3.toInt = (B : Int) + (pre.length : Int) → l.length < n →
      ∃ r σ', LF_X12_paceAt n x1 x2 x3 σ = (r, σ') ∧ r.toInt = pos0 (l.foldl (pstep L) a) ∧ FXp σ σ' := by
  have z0' : (0 : Int32).toInt = 0 := rfl
  have z1' : (1 : Int32).toInt = 1 := rfl
  intro l
  induction l with
  | nil =>
    intro pre n x2 x3 a σ e h hB hm hF hx2 hb hx3 hn
    rw [List.append_nil] at e
    obtain ⟨n, rfl⟩ : ∃ k, n = k + 1 := ⟨n - 1, by omega⟩
    obtain ⟨r1, r2, b1, b2, b3, b4, b5, b6⟩ := MH_beg h hl hT
    rw [hB] at b4
    show ∃ r σ', LB_X12_paceAt_13 (LF_X12_paceAt n) x1 x2 x3 σ = (r, σ') ∧ r.toInt = pos0 a ∧ _
    unfold LB_X12_paceAt_13
    rw [b2, fb_e, if_pos (show r2 ≤ x3 from Int32.le_iff_toInt_le.mpr (by rw [e] at b4; omega))]
    obtain ⟨r, m1, m2⟩ := most0 (σ := σ) hx2
    rw [m1, fb_e]
    exact ⟨r, σ, rfl, m2, FXp_rf⟩
  | cons c l ih =>
    intro pre n x2 x3 a σ e h hB hm hF hx2 hb hx3 hn
    rw [List.length_cons] at hn
    obtain ⟨n, rfl⟩ : ∃ k, n = k + 1 := ⟨n - 1, by omega⟩
    obtain ⟨r1, r2, b1, b2, b3, b4, b5, b6⟩ := MH_beg h hl hT
    rw [hB] at b4 b5 b6
    have hg : cl[pre.length]? = some c := by rw [e]; exact get_pc
    have hcm : c ∈ cl := List.mem_of_getElem? hg
    obtain ⟨w1, w2, w3, w4⟩ := hW c hcm
    obtain ⟨g1, g2, g3⟩ := b6 _ _ hg
    have hlen : cl.length = pre.length + (l.length + 1) := by rw [e, List.length_append]; rfl
    have ec := cl_eq (x := x3) (by omega)
    have ek : x3.toNatClampNeg = B + pre.length := by omega
    have t9 : (x3 + (1 : Int32)).toInt = x3.toInt + 1 := i_add (y := (1 : Int32)) (by show (_ : Int) ≤ x3.toInt + 1; omega) (by show x3.toInt + 1 ≤ (_ : Int); omega)
    have hpl : ((pre ++ [c]).length : Int) = (pre.length : Int) + 1 := by rw [List.length_append]; show ((pre.length + 1 : Nat) : Int) = _; omega
    have hb2 := pstep_b (L := L) w2 hb
    have next : ∀ (v1 : Int32) (σ1 : Sg), v1.toInt = pstep L a c → FXp σ σ1 → ∃ r σ', LF_X12_paceAt n x1 v1 (x3 + 1) σ1 = (r, σ') ∧ r.toInt = pos0 ((c :: l).foldl (pstep L) a) ∧ FXp σ σ' := by
      intro v1 σ1 h1 f
      obtain ⟨r, σ', k1, k2, k3⟩ := ih (pre ++ [c]) n v1 (x3 + 1) (pstep L a c) σ1 (by rw [e, List.append_assoc]; rfl) (MH_p f h) (by rw [bgn_p f]; exact hB) (by rw [FXp_i f (by decide +kernel)]; exact hm) (FCM_p hF f) h1 (by rw [hpl]; omega) (by rw [t9, hpl]; omega) (by omega)
      exact ⟨r, σ', k1, k2, FXp_tr f k3⟩
    show ∃ r σ', LB_X12_paceAt_13 (LF_X12_paceAt n) x1 x2 x3 σ = (r, σ') ∧ _
    unfold LB_X12_paceAt_13
    rw [b2, fb_e, if_neg (show ¬ r2 ≤ x3 from fun h9 => by have := Int32.le_iff_toInt_le.mp h9; omega), ek]
    by_cases hw : c.1 ≤ 1
    · rw [if_neg (show ¬ (1 : Int32) < gi σ 118 (B + pre.length) from fun h9 => by have := Int32.lt_iff_toInt_lt.mp h9; omega)]
      obtain ⟨lo, l1, l2, l3, l4⟩ := g3 hw
      have elo := cl_eq (x := gi σ 120 (B + pre.length)) (by omega)
      obtain ⟨σ9, h1, h2⟩ := holdsM (c := B + pre.length) (L := L) (x1 := x3) (x2 := mm) ek c.2.2 [] 700 (0 : Int32) (gi σ 120 (B + pre.length)) lo σ (w3 hw 0) (by decide +kernel) rfl l2 l3 (by omega) l4 trivial hF (by omega)
      have H : F_X12_holds x3 (gi σ 110 x1.toNatClampNeg) σ = (bI ((eall L c.2.2 []).headD false), σ9) := by
        unfold F_X12_holds
        rw [fl_e, ek, hm]
        exact h1
      rw [H, fb_e]
      have ps : pstep L a c = if (eall L c.2.2 []).headD false = true then (if c.1 = 0 then a + (c.2.1 : Int) else a - (c.2.1 : Int)) else a := by unfold pstep; rw [if_pos hw]
      by_cases hh : (eall L c.2.2 []).headD false = true
      · rw [if_pos hh] at ps
        rw [hh, if_neg (show ¬ bI true = 0 by decide +kernel), FXp_i h2 (by decide +kernel), FXp_i h2 (by decide +kernel)]
        by_cases hz : c.1 = 0
        · rw [if_pos hz] at ps
          rw [if_pos (show gi σ 118 (B + pre.length) = 0 from Int32.toInt_inj.mp (by omega)), fl_e, fl_e]
          exact next _ _ (by rw [i_add (by omega) (by omega), ps]; omega) h2
        · rw [if_neg hz] at ps
          have ng : (-(gi σ 119 (B + pre.length))).toInt = -(gi σ 119 (B + pre.length)).toInt := i_neg (by omega)
          rw [if_neg (show ¬ gi σ 118 (B + pre.length) = 0 from fun h9 => by rw [h9] at g1; omega), fl_e, fl_e]
          exact next _ _ (by rw [i_add (by omega) (by omega), ng, ps]; omega) h2
      · rw [if_neg hh] at ps
        have hh' : (eall L c.2.2 []).headD false = false := Bool.eq_false_iff.mpr hh
        rw [hh', if_pos (show bI false = 0 from rfl), fl_e]
        exact next _ _ (by rw [ps]; exact hx2) h2
    · have ps : pstep L a c = a := by unfold pstep; rw [if_neg hw]
      rw [if_pos (show (1 : Int32) < gi σ 118 (B + pre.length) from Int32.lt_iff_toInt_lt.mpr (by omega)), fl_e]
      exact next _ _ (by rw [ps]; exact hx2) FXp_rf
/-! a minute, plain -/
noncomputable abbrev Stc := Nat × (Nat → Nat) × (Nat → Int) × (Nat → Int) × (Nat → Int) × Int × Int × List Cls
noncomputable abbrev Dyn := Int × (Nat → Int) × (Nat → Int) × (Nat → Int) × (Nat → Int)
noncomputable def S_r (S : Stc) : Nat := S.1
noncomputable def S_ln (S : Stc) : Nat → Nat := S.2.1
noncomputable def S_kn (S : Stc) : Nat → Int := S.2.2.1
noncomputable def S_vv (S : Stc) : Nat → Int := S.2.2.2.1
noncomputable def S_tl (S : Stc) : Nat → Int := S.2.2.2.2.1
noncomputable def S_gp (S : Stc) : Int := S.2.2.2.2.2.1
noncomputable def S_tr (S : Stc) : Int := S.2.2.2.2.2.2.1
noncomputable def S_cl (S : Stc) : List Cls := S.2.2.2.2.2.2.2
noncomputable def D_m (D : Dyn) : Int := D.1
noncomputable def D_at (D : Dyn) : Nat → Int := D.2.1
noncomputable def D_ed (D : Dyn) : Nat → Int := D.2.2.1
noncomputable def D_ti (D : Dyn) : Nat → Int := D.2.2.2.1
noncomputable def D_st (D : Dyn) : Nat → Int := D.2.2.2.2
noncomputable def upi (f : Nat → Int) (m : Nat) (x : Int) : Nat → Int := fun j => if j = m then x else f j
theorem upi_e {f : Nat → Int} {m : Nat} {x : Int} : upi f m x m = x := if_pos rfl
theorem upi_n {f : Nat → Int} {m j : Nat} {x : Int} (h : j ≠ m) : upi f m x j = f j := if_neg h
noncomputable def mnI (x y : Int) : Int := if y < x then y else x
noncomputable def SBd (n : Nat) (S : Stc) : Prop := n ≤ 6 ∧ S_r S ≤ n ∧ (∀ p, p < S_r S → S_ln S p < n) ∧ (∀ m, m < n → (0 ≤ S_kn S m ∧ S_kn S m ≤ 6) ∧ (0 ≤ S_vv S m ∧ S_vv S m ≤ 9)) ∧ (∀ k, k < 24 → 0 ≤ S_tl S k ∧ S_tl S k ≤ 9) ∧ (0 ≤ S_gp S ∧ S_gp S ≤ 99) ∧ (0 ≤ S_tr S ∧ S_tr S ≤ 99) ∧ PW (S_cl S) ∧ (S_cl S).length ≤ 10 ∧ (toksOf (S_cl S)).length ≤ 100
noncomputable def DBd (n : Nat) (K : Int) (D : Dyn) : Prop := (0 ≤ D_m D ∧ D_m D ≤ K) ∧ ∀ m, m < n → (0 ≤ D_at D m ∧ D_at D m ≤ 9999) ∧ (0 ≤ D_ed D m ∧ D_ed D m ≤ 10) ∧ (0 ≤ D_ti D m ∧ D_ti D m ≤ 99) ∧ (0 ≤ D_st D m ∧ D_st D m ≤ 1000)
noncomputable def aLt (S : Stc) (D : Dyn) (p : Nat) : Nat → Int := Lt6 (S_ln S p : Int) (S_kn S (S_ln S p)) (p : Int) (D_ed D (S_ln S p)) (D_ti D (S_ln S p) / 10) (D_m D % 10)
noncomputable def aPc (S : Stc) (D : Dyn) (p : Nat) : Int := pacS (aLt S D p) (S_cl S)
noncomputable def aPl (S : Stc) (D : Dyn) (p : Nat) : Int := pos0 (aPc S D p - D_ti D (S_ln S p) / 20)
noncomputable def aHa (S : Stc) (D : Dyn) (p : Nat) : Int := if D_ed D (S_ln S p) ≤ 5 then aPl S D p else aPl S D p + S_vv S (S_ln S p)
noncomputable def aPr (S : Stc) (D : Dyn) (p : Nat) : Bool := decide (p + 1 < S_r S ∧ D_at D (S_ln S p) - D_at D (S_ln S (p + 1)) < S_gp S + 3)
noncomputable def aRw (S : Stc) (D : Dyn) (p : Nat) : Int :=
  if S_kn S (S_ln S p) = 1 then aPc S D p
  else if S_kn S (S_ln S p) = 2 then aHa S D p
  else if S_kn S (S_ln S p) = 3 then aPl S D p / 2
  else if S_kn S (S_ln S p) = 4 then pos0 (aPc S D p - S_vv S (S_ln S p) / 3)
  else if S_kn S (S_ln S p) = 5 then (if aPr S D p = true then aHa S D p + 2 else aHa S D p)
  else if S_kn S (S_ln S p) = 6 then aPl S D p / 2 + S_tl S (4 * S_ln S p + (D_m D % 4).toNat)
  else aPl S D p
noncomputable def aSt (S : Stc) (D : Dyn) (p : Nat) : Int := if D_ed D (S_ln S p) = 0 then aRw S D p / 2 else aRw S D p
noncomputable def aFar (S : Stc) (s : Int) (D : Dyn) (p : Nat) : Int := pos0 ((if p = 0 then mnI (D_at D (S_ln S p) + s) 9999 else mnI (mnI (D_at D (S_ln S p) + s) 9999) (D_at D (S_ln S (p - 1)) - S_gp S)) - D_at D (S_ln S p))
noncomputable def aHd (S : Stc) (s : Int) (D : Dyn) (p : Nat) : Bool := if 0 < D_st D (S_ln S p) then false else decide (aFar S s D p < s)
noncomputable def aGo (S : Stc) (s : Int) (D : Dyn) (p : Nat) : Dyn :=
  if 0 < D_st D (S_ln S p) then (D_m D, D_at D, D_ed D, upi (D_ti D) (S_ln S p) (pos0 (D_ti D (S_ln S p) - 2)), upi (D_st D) (S_ln S p) (D_st D (S_ln S p) - 1))
  else if 0 < aFar S s D p then (D_m D, upi (D_at D) (S_ln S p) (D_at D (S_ln S p) + aFar S s D p), upi (D_ed D) (S_ln S p) (pos0 (D_ed D (S_ln S p) - 1)), upi (D_ti D) (S_ln S p) (mnI 99 (D_ti D (S_ln S p) + S_tr S)), D_st D)
  else (D_m D, D_at D, D_ed D, upi (D_ti D) (S_ln S p) (pos0 (D_ti D (S_ln S p) - 2)), D_st D)
noncomputable def aGos (S : Stc) (st : Nat → Int) : Nat → Nat → List Nat → Dyn → List Nat × Dyn
  | 0, _, h, D => (h, (D_m D + 1, D.2))
  | k + 1, p, h, D => aGos S st k (p + 1) (if aHd S (st p) D p = true then h ++ [S_ln S p] else h) (aGo S (st p) D p)
noncomputable def aMin (S : Stc) (D : Dyn) : List Nat × Dyn := aGos S (aSt S D) (S_r S) 0 [] D
noncomputable def hset (h : List Nat) : Int32 := h.foldl (fun x m => x ||| ((1 : Int32) <<< ((nI m) &&& 31))) 0
theorem hset_ap {h : List Nat} {m : Nat} : hset (h ++ [m]) = hset h ||| ((1 : Int32) <<< ((nI m) &&& 31)) := by
  unfold hset
  rw [List.foldl_append]; rfl
/-- what a method leaves -/
noncomputable def Rt {α : Type} (y : α × Sg) (Q : α → Sg → Prop) : Prop := Q y.1 y.2
theorem Rt_fl {α β : Type} {a : β} {f : β → α × Sg} {Q : α → Sg → Prop} (h : ∀ t, t = a → Rt (f t) Q) : Rt (fl a f) Q := h a rfl
theorem Rt_fb {α β : Type} {x : β × Sg} {f : β → Sg → α × Sg} {Q : α → Sg → Prop} {P : β → Sg → Prop} (h : Rt x P) (g : ∀ r s, P r s → Rt (f r s) Q) : Rt (fb x f) Q := g x.1 x.2 h
theorem Rt_fe {α β : Type} {x : β × Sg} {r : β} {s : Sg} {f : β → Sg → α × Sg} {Q : α → Sg → Prop} (h : x = (r, s)) (g : Rt (f r s) Q) : Rt (fb x f) Q := by subst h; exact g
theorem Rt_w {α : Type} {x : α × Sg} {P Q : α → Sg → Prop} (h : Rt x P) (g : ∀ r s, P r s → Q r s) : Rt x Q := g _ _ h
theorem Rt_p {α : Type} {r : α} {s : Sg} {Q : α → Sg → Prop} (h : Q r s) : Rt (r, s) Q := h
theorem Rt_t {α : Type} {c : Prop} {d : Decidable c} {A B : α × Sg} {Q : α → Sg → Prop} (q : c) (h : Rt A Q) : Rt (@ite _ c d A B) Q := by rw [if_pos q]; exact h
theorem Rt_f {α : Type} {c : Prop} {d : Decidable c} {A B : α × Sg} {Q : α → Sg → Prop} (q : ¬ c) (h : Rt B Q) : Rt (@ite _ c d A B) Q := by rw [if_neg q]; exact h
theorem Rt_o {α β : Type} {o : Option β} {a : β} {A : α × Sg} {f : β → α × Sg} {Q : α → Sg → Prop} (e : o = some a) (h : Rt (f a) Q) : Rt (fop o A f) Q := by subst e; exact h
theorem Rt_m {α : Type} {o : Option Nat} {a ci z : Nat} {A : α × Sg} {f : Nat → Nat → α × Sg} {Q : α → Sg → Prop} (e : o = some a) (hk : kd a = (10 + ci, z)) (h : Rt (f a ci) Q) : Rt (fm o A f) Q := by
  subst e
  show Rt (f a ((kd a).1 - 10)) Q
  rw [hk, show (10 + ci, z).1 - 10 = ci from Nat.add_sub_cancel_left _ _]
  exact h
theorem Rt_of {α : Type} {x : α × Sg} {r : α} {s : Sg} {Q : α → Sg → Prop} (h : Rt x Q) (e : x = (r, s)) : Q r s := by subst e; exact h
/-- the same for what gives a state alone -/
noncomputable def Ru (y : Sg) (Q : Sg → Prop) : Prop := Q y
theorem Ru_fl {β : Type} {a : β} {f : β → Sg} {Q : Sg → Prop} (h : ∀ t, t = a → Ru (f t) Q) : Ru (fl a f) Q := h a rfl
theorem Ru_fs {x : Sg} {f : Sg → Sg} {P Q : Sg → Prop} (h : Ru x P) (g : ∀ s, P s → Ru (f s) Q) : Ru (fl x f) Q := g x h
theorem Rt_fs {α : Type} {x : Sg} {f : Sg → α × Sg} {P : Sg → Prop} {Q : α → Sg → Prop} (h : Ru x P) (g : ∀ s, P s → Rt (f s) Q) : Rt (fl x f) Q := g x h
theorem Ru_fb {β : Type} {x : β × Sg} {f : β → Sg → Sg} {P : β → Sg → Prop} {Q : Sg → Prop} (h : Rt x P) (g : ∀ r s, P r s → Ru (f r s) Q) : Ru (fb x f) Q := g x.1 x.2 h
theorem Ru_p {s : Sg} {Q : Sg → Prop} (h : Q s) : Ru s Q := h
theorem Ru_t {c : Prop} {d : Decidable c} {A B : Sg} {Q : Sg → Prop} (q : c) (h : Ru A Q) : Ru (@ite _ c d A B) Q := by rw [if_pos q]; exact h
theorem Ru_f {c : Prop} {d : Decidable c} {A B : Sg} {Q : Sg → Prop} (q : ¬ c) (h : Ru B Q) : Ru (@ite _ c d A B) Q := by rw [if_neg q]; exact h
theorem Ru_o {β : Type} {o : Option β} {a : β} {A : Sg} {f : β → Sg} {Q : Sg → Prop} (e : o = some a) (h : Ru (f a) Q) : Ru (fop o A f) Q := by subst e; exact h
theorem Ru_w {x : Sg} {P Q : Sg → Prop} (h : Ru x P) (g : ∀ s, P s → Q s) : Ru x Q := g _ h
/-! how far numbers go -/
theorem pos0_b {x k : Int} (h : x ≤ k) (hk : 0 ≤ k) : 0 ≤ pos0 x ∧ pos0 x ≤ k := by unfold pos0; split <;> omega
theorem aPc_b {n : Nat} {S : Stc} {D : Dyn} {p : Nat} (h : SBd n S) : 0 ≤ aPc S D p ∧ aPc S D p ≤ 996 := by
  obtain ⟨-, -, -, -, -, -, -, h8, h9, -⟩ := h
  exact pacS_b h8 h9
theorem aLt_b {n : Nat} {K : Int} {S : Stc} {D : Dyn} {p : Nat} (h : SBd n S) (d : DBd n K D) (hp : p < S_r S) : ∀ f, f ≤ 5 → 0 ≤ aLt S D p f ∧ aLt S D p f ≤ 200000 := by
  obtain ⟨h1, h2, h3, h4, h5, h6, h7, h8, h9, h10⟩ := h
  obtain ⟨d1, d2⟩ := d
  have hm := h3 p hp
  obtain ⟨k1, k2⟩ := h4 _ hm
  obtain ⟨e1, e2, e3, e4⟩ := d2 _ hm
  intro f hf
  unfold aLt
  rcases (show f = 0 ∨ f = 1 ∨ f = 2 ∨ f = 3 ∨ f = 4 ∨ f = 5 by omega) with rfl | rfl | rfl | rfl | rfl | rfl
  · show 0 ≤ (S_ln S p : Int) ∧ (S_ln S p : Int) ≤ 200000; omega
  · show 0 ≤ S_kn S (S_ln S p) ∧ S_kn S (S_ln S p) ≤ 200000; omega
  · show 0 ≤ (p : Int) ∧ (p : Int) ≤ 200000; omega
  · show 0 ≤ D_ed D (S_ln S p) ∧ D_ed D (S_ln S p) ≤ 200000; omega
  · show 0 ≤ D_ti D (S_ln S p) / 10 ∧ D_ti D (S_ln S p) / 10 ≤ 200000; omega
  · show 0 ≤ D_m D % 10 ∧ D_m D % 10 ≤ 200000; omega
theorem aPl_b {n : Nat} {K : Int} {S : Stc} {D : Dyn} {p : Nat} (h : SBd n S) (d : DBd n K D) (hp : p < S_r S) : 0 ≤ aPl S D p ∧ aPl S D p ≤ 996 := by
  have a := aPc_b (D := D) (p := p) h
  obtain ⟨e1, e2, e3, e4⟩ := d.2 _ (h.2.2.1 p hp)
  exact pos0_b (by omega) (by decide +kernel)
theorem aHa_b {n : Nat} {K : Int} {S : Stc} {D : Dyn} {p : Nat} (h : SBd n S) (d : DBd n K D) (hp : p < S_r S) : 0 ≤ aHa S D p ∧ aHa S D p ≤ 1005 := by
  have a := aPl_b h d hp
  have v := (h.2.2.2.1 _ (h.2.2.1 p hp)).2
  unfold aHa
  split <;> omega
theorem aRw_b {n : Nat} {K : Int} {S : Stc} {D : Dyn} {p : Nat} (h : SBd n S) (d : DBd n K D) (hp : p < S_r S) : 0 ≤ aRw S D p ∧ aRw S D p ≤ 1007 := by
  have a := aPc_b (D := D) (p := p) h
  have b := aPl_b h d hp
  have c := aHa_b h d hp
  have hm := h.2.2.1 p hp
  have v := (h.2.2.2.1 _ hm).2
  have n6 := h.1
  have q := h.2.2.2.2.1 (4 * S_ln S p + (D_m D % 4).toNat) (by omega)
  have o : 0 ≤ pos0 (aPc S D p - S_vv S (S_ln S p) / 3) ∧ pos0 (aPc S D p - S_vv S (S_ln S p) / 3) ≤ 996 := pos0_b (by omega) (by decide +kernel)
  unfold aRw
  repeat' split
  all_goals omega
theorem aSt_b {n : Nat} {K : Int} {S : Stc} {D : Dyn} {p : Nat} (h : SBd n S) (d : DBd n K D) (hp : p < S_r S) : 0 ≤ aSt S D p ∧ aSt S D p ≤ 1007 := by
  have a := aRw_b h d hp
  unfold aSt
  split <;> omega
theorem mnI_b {x y : Int} : mnI x y ≤ x ∧ mnI x y ≤ y ∧ (mnI x y = x ∨ mnI x y = y) := by unfold mnI; split <;> omega
theorem aFar_b {n : Nat} {K s : Int} {S : Stc} {D : Dyn} {p : Nat} (h : SBd n S) (d : DBd n K D) (hp : p < S_r S) : 0 ≤ aFar S s D p ∧ aFar S s D p ≤ 9999 - D_at D (S_ln S p) := by
  obtain ⟨e1, -⟩ := d.2 _ (h.2.2.1 p hp)
  have a := @mnI_b (D_at D (S_ln S p) + s) 9999
  have b := @mnI_b (mnI (D_at D (S_ln S p) + s) 9999) (D_at D (S_ln S (p - 1)) - S_gp S)
  unfold aFar
  refine pos0_b ?_ (by omega)
  split <;> omega
theorem aGo_m {S : Stc} {s : Int} {D : Dyn} {p : Nat} : D_m (aGo S s D p) = D_m D := by
  unfold aGo
  split
  · rfl
  · split <;> rfl
theorem upi_P {f : Nat → Int} {m : Nat} {x : Int} {P : Nat → Int → Prop} (h : ∀ j, P j (f j)) (hx : P m x) : ∀ j, P j (upi f m x j) := fun j => by
  by_cases e : j = m
  · subst e; rw [upi_e]; exact hx
  · rw [upi_n e]; exact h j
theorem upi_b {f : Nat → Int} {m n : Nat} {x lo hi : Int} (h : ∀ j, j < n → lo ≤ f j ∧ f j ≤ hi) (hx : lo ≤ x ∧ x ≤ hi) : ∀ j, j < n → lo ≤ upi f m x j ∧ upi f m x j ≤ hi :=
  upi_P (P := fun j y => j < n → lo ≤ y ∧ y ≤ hi) h (fun _ => hx)
theorem DBd_i {n : Nat} {K : Int} {D : Dyn} : DBd n K D ↔ (0 ≤ D_m D ∧ D_m D ≤ K) ∧ (∀ m, m < n → 0 ≤ D_at D m ∧ D_at D m ≤ 9999) ∧ (∀ m, m < n → 0 ≤ D_ed D m ∧ D_ed D m ≤ 10) ∧ (∀ m, m < n → 0 ≤ D_ti D m ∧ D_ti D m ≤ 99) ∧ (∀ m, m < n → 0 ≤ D_st D m ∧ D_st D m ≤ 1000) :=
  ⟨fun h => ⟨h.1, fun m hm => (h.2 m hm).1, fun m hm => (h.2 m hm).2.1, fun m hm => (h.2 m hm).2.2.1, fun m hm => (h.2 m hm).2.2.2⟩, fun h => ⟨h.1, fun m hm => ⟨h.2.1 m hm, h.2.2.1 m hm, h.2.2.2.1 m hm, h.2.2.2.2 m hm⟩⟩⟩
theorem aGo_b {n : Nat} {K s : Int} {S : Stc} {D : Dyn} {p : Nat} (h : SBd n S) (d : DBd n K D) (hp : p < S_r S) : DBd n K (aGo S s D p) := by
  have hm := h.2.2.1 p hp
  obtain ⟨e1, e2, e3, e4⟩ := d.2 _ hm
  have f := aFar_b (s := s) h d hp
  have t := h.2.2.2.2.2.2.1
  obtain ⟨d1, d2, d3, d4, d5⟩ := DBd_i.mp d
  have p2 : 0 ≤ pos0 (D_ti D (S_ln S p) - 2) ∧ pos0 (D_ti D (S_ln S p) - 2) ≤ 99 := pos0_b (by omega) (by decide +kernel)
  unfold aGo
  by_cases c : 0 < D_st D (S_ln S p)
  · rw [if_pos c]
    exact DBd_i.mpr ⟨d1, d2, d3, upi_b d4 p2, upi_b d5 (by omega)⟩
  · rw [if_neg c]
    by_cases c2 : 0 < aFar S s D p
    · rw [if_pos c2]
      have m9 := @mnI_b 99 (D_ti D (S_ln S p) + S_tr S)
      exact DBd_i.mpr ⟨d1, upi_b d2 (by omega), upi_b d3 (pos0_b (by omega) (by decide +kernel)), upi_b d4 (by omega), d5⟩
    · rw [if_neg c2]
      exact DBd_i.mpr ⟨d1, d2, d3, upi_b d4 p2, d5⟩
theorem aGos_b {n : Nat} {S : Stc} {st : Nat → Int} (h : SBd n S) : ∀ (k p : Nat) (l : List Nat) (D : Dyn) (K : Int), DBd n K D → p + k ≤ S_r S → DBd n (K + 1) (aGos S st k p l D).2 := by
  intro k
  induction k with
  | zero => intro p l D K d _; exact ⟨by have := d.1; show 0 ≤ D_m D + 1 ∧ D_m D + 1 ≤ K + 1; omega, d.2⟩
  | succ k ih => intro p l D K d hk; exact ih (p + 1) _ _ K (aGo_b h d (by omega)) (by omega)
theorem aMin_b {n : Nat} {S : Stc} {D : Dyn} {K : Int} (h : SBd n S) (d : DBd n K D) : DBd n (K + 1) (aMin S D).2 := aGos_b h _ _ _ _ _ d (by omega)
/-! a minute in the class -/
noncomputable def CS (c0 n : Nat) (S : Stc) (σ : Sg) : Prop :=
  (gi σ c0 1).toInt = (n : Int) ∧ (gi σ c0 3).toInt = (S_r S : Int) ∧ (∀ p, p < S_r S → (gi σ (c0 + 2) p).toInt = (S_ln S p : Int))
  ∧ (∀ m, m < n → ∃ μ κ : Nat, gr σ (c0 + 1) m = some μ ∧ κ < 7 ∧ 2000 ≤ μ ∧ kd μ = (10 + cls κ, 0) ∧ S_kn S m = (κ : Int) ∧ (gi σ μ 0).toInt = (κ : Int) ∧ (gi σ μ 1).toInt = (m : Int) ∧ (gi σ μ 2).toInt = S_vv S m)
  ∧ (∀ k, k < 24 → (gi σ (c0 + 7) k).toInt = S_tl S k)
  ∧ (∃ f, gr σ c0 10 = some f ∧ (f = 69 ∨ 1000 ≤ f) ∧ FdA σ f (S_cl S)) ∧ S_tr S = (lastW 3 1 (S_cl S) : Int)
  ∧ ((0 ≤ (gi σ c0 11).toInt ∧ S_gp S = (gi σ c0 11).toInt) ∨ ((gi σ c0 11).toInt < 0 ∧ S_gp S = (lastW 2 2 (S_cl S) : Int)))
noncomputable def CDy (c0 n : Nat) (D : Dyn) (σ : Sg) : Prop := (gi σ c0 9).toInt = D_m D ∧ (∀ m, m < n → (gi σ (c0 + 3) m).toInt = D_at D m) ∧ (∀ m, m < n → (gi σ (c0 + 4) m).toInt = D_ed D m) ∧ (∀ m, m < n → (gi σ (c0 + 5) m).toInt = D_ti D m) ∧ (∀ m, m < n → (gi σ (c0 + 6) m).toInt = D_st D m)
noncomputable def RcC (c0 id k : Nat) : Prop := (id = c0 ∧ (k = 1 ∨ k = 3 ∨ k = 11)) ∨ id = c0 + 2 ∨ id = c0 + 7 ∨ (69 ≤ id ∧ id ≤ 73) ∨ 1000 ≤ id
theorem CS_eq {c0 n : Nat} {S : Stc} {σ σ' : Sg} (e : ∀ id k, RcC c0 id k → gi σ' id k = gi σ id k) (g : ∀ k, gr σ' (c0 + 1) k = gr σ (c0 + 1) k) (g10 : gr σ' c0 10 = gr σ c0 10) (h : CS c0 n S σ) : CS c0 n S σ' := by
  obtain ⟨h1, h2, h3, h4, h5, ⟨f, h6, h7, h8⟩, h9, h10⟩ := h
  have e11 : gi σ' c0 11 = gi σ c0 11 := e c0 11 (by unfold RcC; omega)
  refine ⟨by rw [e c0 1 (by unfold RcC; omega)]; exact h1, by rw [e c0 3 (by unfold RcC; omega)]; exact h2, fun p hp => by rw [e (c0 + 2) p (by unfold RcC; omega)]; exact h3 p hp, fun m hm => ?_, fun k hk => by rw [e (c0 + 7) k (by unfold RcC; omega)]; exact h5 k hk, ⟨f, by rw [g10]; exact h6, h7, FdA_eq (fun id k a b => e id k (by unfold RcC; omega)) h8⟩, h9, by rw [e11]; exact h10⟩
  obtain ⟨μ, κ, a1, a2, a3, a4, a5, a6, a7, a8⟩ := h4 m hm
  exact ⟨μ, κ, by rw [g]; exact a1, a2, a3, a4, a5, by rw [e μ 0 (by unfold RcC; omega)]; exact a6, by rw [e μ 1 (by unfold RcC; omega)]; exact a7, by rw [e μ 2 (by unfold RcC; omega)]; exact a8⟩
theorem CDy_eq {c0 n : Nat} {D : Dyn} {σ σ' : Sg} (e : ∀ id k, (id = c0 ∧ k = 9) ∨ (c0 + 3 ≤ id ∧ id ≤ c0 + 6) → gi σ' id k = gi σ id k) (h : CDy c0 n D σ) : CDy c0 n D σ' := by
  obtain ⟨h1, h2, h3, h4, h5⟩ := h
  exact ⟨by rw [e c0 9 (by omega)]; exact h1, fun m hm => by rw [e (c0 + 3) m (by omega)]; exact h2 m hm, fun m hm => by rw [e (c0 + 4) m (by omega)]; exact h3 m hm, fun m hm => by rw [e (c0 + 5) m (by omega)]; exact h4 m hm, fun m hm => by rw [e (c0 + 6) m (by omega)]; exact h5 m hm⟩
/-- scratch rows alone -/
noncomputable def FXs (c0 : Nat) (σ σ' : Sg) : Prop := FX (fun id => id = c0 + 14 ∨ id = c0 + 15) (fun _ _ => False) σ σ'
noncomputable def FXn (c0 n : Nat) (σ σ' : Sg) : Prop := FX (fun id => id = c0 + 14 ∨ id = c0 + 15) (fun id k => (id = c0 ∧ k = 9) ∨ (c0 + 3 ≤ id ∧ id ≤ c0 + 6 ∧ k < n)) σ σ'
theorem FXn_rf {c0 n : Nat} {σ : Sg} : FXn c0 n σ σ := FX_rf
theorem FXn_si {c0 n a k : Nat} {v : Int32} {σ σ1 : Sg} (f : FXn c0 n σ σ1) (h : c0 + 3 ≤ a ∧ a ≤ c0 + 6 ∧ k < n) : FXn c0 n σ (si σ1 a k v) := FX_si f (Or.inr (Or.inr h))
theorem FXn_tr {c0 n : Nat} {σ σ1 σ2 : Sg} (f : FXn c0 n σ σ1) (g : FXn c0 n σ1 σ2) : FXn c0 n σ σ2 := FX_tr f g (fun _ h => h) (fun _ _ h => Or.inr h)
theorem FXs_n {c0 n : Nat} {σ σ1 : Sg} (f : FXs c0 σ σ1) : FXn c0 n σ σ1 := FX_tr FX_rf f (fun _ h => h) (fun _ _ h => h.elim)
theorem FXs_i {c0 : Nat} {σ σ1 : Sg} (f : FXs c0 σ σ1) {id k : Nat} (h : id ≠ c0 + 14 ∧ id ≠ c0 + 15) : gi σ1 id k = gi σ id k := FX_i f (fun z => by (try dsimp only at z); omega) (fun z => z)
theorem FXn_i {c0 n : Nat} {σ σ1 : Sg} (f : FXn c0 n σ σ1) {id k : Nat} (h : (id < c0 + 3 ∨ c0 + 6 < id ∨ n ≤ k) ∧ id ≠ c0 + 14 ∧ id ≠ c0 + 15 ∧ (id ≠ c0 ∨ k ≠ 9)) : gi σ1 id k = gi σ id k := FX_i f (fun z => by (try dsimp only at z); omega) (fun z => by (try dsimp only at z); omega)
theorem FXn_r {c0 n : Nat} {σ σ1 : Sg} (f : FXn c0 n σ σ1) {id k : Nat} (h : (id < c0 + 3 ∨ c0 + 6 < id ∨ n ≤ k) ∧ id ≠ c0 + 14 ∧ id ≠ c0 + 15 ∧ (id ≠ c0 ∨ k ≠ 9)) : gr σ1 id k = gr σ id k := f.2.2 id k (fun z => by (try dsimp only at z); omega) (fun z => by (try dsimp only at z); omega)
theorem CS_m {c0 n : Nat} {S : Stc} {σ σ1 : Sg} (hc : c0 ≤ 33) (f : FXn c0 n σ σ1) (h : CS c0 n S σ) : CS c0 n S σ1 :=
  CS_eq (fun id k a => FXn_i f (by unfold RcC at a; omega)) (fun k => FXn_r f (by omega)) (FXn_r f (by omega)) h
theorem CDy_s {c0 n : Nat} {D : Dyn} {σ σ1 : Sg} (f : FXs c0 σ σ1) (h : CDy c0 n D σ) : CDy c0 n D σ1 :=
  CDy_eq (fun id k a => FXs_i f (by omega)) h
/-- the letters' row alone -/
noncomputable def FXl (c0 : Nat) (σ σ' : Sg) : Prop := FX (fun id => id = c0 + 15) (fun _ _ => False) σ σ'
theorem FXl_s {c0 : Nat} {σ σ1 : Sg} (f : FXl c0 σ σ1) : FXs c0 σ σ1 := FX_tr FX_rf f (fun _ h => Or.inr h) (fun _ _ h => h.elim)
theorem FXl_i {c0 : Nat} {σ σ1 : Sg} (f : FXl c0 σ σ1) {id k : Nat} (h : id ≠ c0 + 15) : gi σ1 id k = gi σ id k := FX_i f (fun z => by (try dsimp only at z); omega) (fun z => z)
theorem pacC {c0 n p : Nat} {K : Int} {S : Stc} {D : Dyn} {σ : Sg} {x : Int32} (hc : c0 ≤ 33) (sb : SBd n S) (db : DBd n K D) (hs : CS c0 n S σ) (hd : CDy c0 n D σ) (hx : x.toInt = (p : Int)) (hp : p < S_r S) :
    Rt (F_X1_paceAt c0 x σ) (fun r σ' => r.toInt = aPc S D p ∧ FXl c0 σ σ') := by
  have ex := cl_eq (x := x) (by omega)
  have ep : x.toNatClampNeg = p := by omega
  have lb := aLt_b sb db hp
  obtain ⟨n6, rn, lnb, kb, -, -, -, pw, cl10, tk⟩ := sb
  obtain ⟨s1, s2, s3, s4, s5, ⟨f, g10, hf, fa⟩, s7, s8⟩ := hs
  obtain ⟨d1, d2, d3, d4, d5⟩ := hd
  obtain ⟨m, em⟩ : ∃ m, m = S_ln S p := ⟨_, rfl⟩
  have hm : m < n := by rw [em]; exact lnb p hp
  have l := s3 p hp
  obtain ⟨μ, κ, g1, k7, k2, kk, k3, k4, k5, k6⟩ := s4 m hm
  obtain ⟨b1, b2⟩ := db
  obtain ⟨u1, u2, u3, u4⟩ := b2 m hm
  have t4 := d4 m hm
  unfold F_X1_paceAt
  rw [ep, show (0 : Int32).toNatClampNeg = 0 from rfl, show (1 : Int32).toNatClampNeg = 1 from rfl, show (2 : Int32).toNatClampNeg = 2 from rfl, show (3 : Int32).toNatClampNeg = 3 from rfl, show (4 : Int32).toNatClampNeg = 4 from rfl, show (5 : Int32).toNatClampNeg = 5 from rfl]
  refine Rt_fl (fun v2 e2 => ?_)
  have v2i : v2.toInt = (m : Int) := by rw [e2, l, em]
  have v2n : v2.toNatClampNeg = m := by have := cl_eq (x := v2) (by omega); omega
  rw [v2n]
  refine Rt_fl (fun σ4 e4 => ?_)
  have f4 : FXl c0 σ σ4 := by rw [e4]; exact FX_si FX_rf (Or.inl rfl)
  refine Rt_m (a := μ) (ci := cls κ) (z := 0) (by rw [e4]; exact g1) kk ?_
  refine Rt_fl (fun σ8 e8 => ?_)
  have f8 : FXl c0 σ σ8 := by rw [e8]; exact FX_si f4 (Or.inl rfl)
  refine Rt_fl (fun σ10 e10 => ?_)
  have f10 : FXl c0 σ σ10 := by rw [e10]; exact FX_si f8 (Or.inl rfl)
  refine Rt_fl (fun σ13 e13 => ?_)
  have f13 : FXl c0 σ σ13 := by rw [e13]; exact FX_si f10 (Or.inl rfl)
  refine Rt_fl (fun σ16 e16 => ?_)
  have f16 : FXl c0 σ σ16 := by rw [e16]; exact FX_si f13 (Or.inl rfl)
  refine Rt_fl (fun σ18 e18 => ?_)
  have f18 : FXl c0 σ σ18 := by rw [e18]; exact FX_si f16 (Or.inl rfl)
  have r0 : gi σ18 (c0 + 15) 0 = v2 := by rw [e18, gi_si_ne (Or.inr (by decide +kernel)), e16, gi_si_ne (Or.inr (by decide +kernel)), e13, gi_si_ne (Or.inr (by decide +kernel)), e10, gi_si_ne (Or.inr (by decide +kernel)), e8, gi_si_ne (Or.inr (by decide +kernel)), e4, gi_si_eq]
  have r1 : gi σ18 (c0 + 15) 1 = gi σ μ 0 := by rw [e18, gi_si_ne (Or.inr (by decide +kernel)), e16, gi_si_ne (Or.inr (by decide +kernel)), e13, gi_si_ne (Or.inr (by decide +kernel)), e10, gi_si_ne (Or.inr (by decide +kernel)), e8, gi_si_eq, FXl_i f4 (by omega)]
  have r2 : gi σ18 (c0 + 15) 2 = x := by rw [e18, gi_si_ne (Or.inr (by decide +kernel)), e16, gi_si_ne (Or.inr (by decide +kernel)), e13, gi_si_ne (Or.inr (by decide +kernel)), e10, gi_si_eq]
  have r3 : gi σ18 (c0 + 15) 3 = gi σ (c0 + 4) m := by rw [e18, gi_si_ne (Or.inr (by decide +kernel)), e16, gi_si_ne (Or.inr (by decide +kernel)), e13, gi_si_eq, FXl_i f10 (by omega)]
  have r4 : gi σ18 (c0 + 15) 4 = gi σ (c0 + 5) m / (10 : Int32) := by rw [e18, gi_si_ne (Or.inr (by decide +kernel)), e16, gi_si_eq, FXl_i f13 (by omega)]
  have r5 : gi σ18 (c0 + 15) 5 = gi σ c0 9 - gi σ c0 9 / (10 : Int32) * (10 : Int32) := by rw [e18, gi_si_eq, FXl_i f16 (by omega)]
  refine Rt_o (a := f) ((f18.2.2 c0 10 (fun z => by (try dsimp only at z); omega) (fun z => z)).trans g10) ?_
  have hL : ∀ j, j ≤ 5 → (gi σ18 (c0 + 15) j).toInt = aLt S D p j := by
    intro j hj
    unfold aLt
    rw [← em]
    rcases (show j = 0 ∨ j = 1 ∨ j = 2 ∨ j = 3 ∨ j = 4 ∨ j = 5 by omega) with rfl | rfl | rfl | rfl | rfl | rfl
    · rw [r0]; exact v2i
    · rw [r1]; exact k4.trans k3.symm
    · rw [r2]; exact hx
    · rw [r3]; exact d3 m hm
    · rw [r4, i_div (k := 10) (by omega) (by decide +kernel) rfl, t4]; rfl
    · rw [r5, i_rem (k := 10) (by omega) (by decide +kernel) rfl, d1]; rfl
  obtain ⟨r, h1, h2⟩ := paceC (c0 := f) (a3 := c0 + 15) (L := aLt S D p) (σ := σ18) (FdA_eq (fun id k a b => FXl_i f18 (by omega)) fa) pw cl10 tk hL lb (S_cl S) [] 900 (6 : Int32) (0 : Int32) (0 : Int32) 0 0 6 rfl rfl (by decide +kernel) rfl rfl (by omega)
  exact Rt_fe (show F_X2_paceOf f (c0 + 15) σ18 = (r, σ18) from h1) (Rt_p ⟨h2, f18⟩)
theorem gapC {c0 n : Nat} {S : Stc} {σ : Sg} (hs : CS c0 n S σ) : ∃ r, F_X1_gap c0 σ = (r, σ) ∧ r.toInt = S_gp S := by
  obtain ⟨s1, s2, s3, s4, s5, ⟨f, g10, hf, fa⟩, s7, s8⟩ := hs
  unfold F_X1_gap
  rcases s8 with ⟨a, b⟩ | ⟨a, b⟩
  · rw [if_neg (i_nlt0 a)]; exact ⟨_, rfl, b.symm⟩
  · rw [if_pos (i_lt0 a), g10]; exact ⟨gi σ f 0, rfl, by rw [b]; exact fa.2.1.1⟩
theorem strX4 {c0 μ m : Nat} {σ : Sg} {r x : Int32} {pc ti : Int} (hn : (gi σ μ 1).toInt = (m : Int)) (hr : r.toInt = pc) (hb : 0 ≤ pc ∧ pc ≤ 996) (ht : (gi σ (c0 + 5) m).toInt = ti) (tb : 0 ≤ ti ∧ ti ≤ 99) : ∃ q, F_X4_strides μ r c0 x σ = (q, σ) ∧ q.toInt = pos0 (pc - ti / 20) := by
  have en : (gi σ μ 1).toNatClampNeg = m := by have := cl_eq (x := gi σ μ 1) (by omega); omega
  have dv : (gi σ (c0 + 5) m / (20 : Int32)).toInt = ti / 20 := by rw [i_div (k := 20) (by omega) (by decide +kernel) rfl, ht]
  unfold F_X4_strides pos0
  rw [en, fl_e]
  by_cases q : pc ≤ ti / 20
  · rw [if_pos (i_le (by omega)), if_pos (by omega)]; exact ⟨_, rfl, rfl⟩
  · rw [if_neg (i_nle (by omega)), if_neg (by omega)]; exact ⟨_, rfl, by rw [i_sub (by omega) (by omega), hr, dv]⟩
theorem prsC {c0 n p : Nat} {K : Int} {S : Stc} {D : Dyn} {σ : Sg} {x : Int32} (sb : SBd n S) (db : DBd n K D) (hs : CS c0 n S σ) (hd : CDy c0 n D σ) (hx : x.toInt = (p : Int)) (hp : p < S_r S) : F_X1_isPressedAt c0 x σ = (if aPr S D p = true then 1 else 0, σ) := by
  obtain ⟨g, hg, gt⟩ := gapC hs
  have ex := cl_eq (x := x) (by omega)
  have ep : x.toNatClampNeg = p := by omega
  obtain ⟨n6, rn, lnb, -, -, gb, -⟩ := sb
  obtain ⟨s1, s2, s3, -⟩ := hs
  obtain ⟨d1, d2, -⟩ := hd
  have x1 : (x + (1 : Int32)).toInt = x.toInt + 1 := i_add (y := (1 : Int32)) (by show (_ : Int) ≤ x.toInt + 1; omega) (by show x.toInt + 1 ≤ (_ : Int); omega)
  have ex1 := cl_eq (x := x + (1 : Int32)) (by omega)
  unfold F_X1_isPressedAt
  by_cases q : p + 1 < S_r S
  · have l0 := s3 p hp
    have l1 := s3 (p + 1) q
    have m0 := lnb p hp
    have m1 := lnb (p + 1) q
    have e0 : (gi σ (c0 + 2) p).toNatClampNeg = S_ln S p := by have := cl_eq (x := gi σ (c0 + 2) p) (by omega); omega
    have e1 : (gi σ (c0 + 2) (p + 1)).toNatClampNeg = S_ln S (p + 1) := by have := cl_eq (x := gi σ (c0 + 2) (p + 1)) (by omega); omega
    have a0 := d2 _ m0
    have a1 := d2 _ m1
    have b0 := (db.2 _ m0).1
    have b1 := (db.2 _ m1).1
    rw [if_neg (i_nle (by omega)), hg, fb_e, ep, show (x + (1 : Int32)).toNatClampNeg = p + 1 from by omega, e0, e1]
    have g3 : (g + (3 : Int32)).toInt = g.toInt + 3 := i_add (y := (3 : Int32)) (by show (_ : Int) ≤ g.toInt + 3; omega) (by show g.toInt + 3 ≤ (_ : Int); omega)
    have df : (gi σ (c0 + 3) (S_ln S p) - gi σ (c0 + 3) (S_ln S (p + 1))).toInt = D_at D (S_ln S p) - D_at D (S_ln S (p + 1)) := by rw [i_sub (by omega) (by omega), a0, a1]
    unfold aPr
    by_cases q2 : D_at D (S_ln S p) - D_at D (S_ln S (p + 1)) < S_gp S + 3
    · rw [if_neg (i_nle (by omega)), decide_eq_true (show _ ∧ _ from ⟨q, q2⟩), if_pos rfl]
    · rw [if_pos (i_le (by omega)), decide_eq_false (fun h => q2 h.2), if_neg (by decide +kernel)]
  · unfold aPr
    rw [if_pos (i_le (by omega)), decide_eq_false (fun h => q h.1), if_neg (by decide +kernel)]
set_option maxHeartbeats 4000000 in
theorem strC {c0 n p m μ κ : Nat} {K : Int} {S : Stc} {D : Dyn} {σ : Sg} {r x : Int32} (sb : SBd n S) (db : DBd n K D) (hs : CS c0 n S σ) (hd : CDy c0 n D σ) (hx : x.toInt = (p : Int)) (hp : p < S_r S) (em : m = S_ln S p) (k7 : κ < 7) (hk : S_kn S m = (κ : Int)) (hn : (gi σ μ 1).toInt = (m : Int)) (hv : (gi σ μ 2).toInt = S_vv S m) (hr : r.toInt = aPc S D p) : ∃ q, F_KD_strides (cls κ) μ r c0 x σ = (q, σ) ∧ q.toInt = aRw S D p := by
  have pb := aPc_b (D := D) (p := p) sb
  have plb := aPl_b sb db hp
  have hab := aHa_b sb db hp
  have hm : m < n := by rw [em]; exact sb.2.2.1 p hp
  have n6 := sb.1
  obtain ⟨u1, u2, u3, u4⟩ := db.2 m hm
  have um := db.1
  have vb := (sb.2.2.2.1 m hm).2
  have t3 := hd.2.2.1 m hm
  have t4 := hd.2.2.2.1 m hm
  have en : (gi σ μ 1).toNatClampNeg = m := by have := cl_eq (x := gi σ μ 1) (by omega); omega
  obtain ⟨q4, h4, v4⟩ := strX4 (x := x) hn hr pb t4 u3
  replace v4 : q4.toInt = aPl S D p := by rw [v4, em]; rfl
  have X3 : ∃ q, F_X3_strides μ r c0 x σ = (q, σ) ∧ q.toInt = aHa S D p := by
    unfold F_X3_strides aHa
    rw [h4, fb_e, en, ← em]
    by_cases q : D_ed D m ≤ 5
    · rw [if_pos (i_le (show _ ≤ (5 : Int) by omega)), if_pos q]
      exact ⟨_, rfl, by rw [i_add (y := (0 : Int32)) (by show (_ : Int) ≤ q4.toInt + 0; omega) (by show q4.toInt + 0 ≤ (_ : Int); omega), v4]; show _ + (0 : Int) = _; omega⟩
    · rw [if_neg (i_nle (show (5 : Int) < _ by omega)), if_neg q]
      exact ⟨_, rfl, by rw [i_add (by omega) (by omega), v4, hv]⟩
  have X0 : ∃ q, F_X0_strides μ r c0 x σ = (q, σ) ∧ q.toInt = aPl S D p / 2 := by
    unfold F_X0_strides
    rw [h4, fb_e]
    exact ⟨_, rfl, by rw [i_div (k := 2) (by omega) (by decide +kernel) rfl, v4]⟩
  unfold aRw
  rw [← em]
  rcases (show κ = 0 ∨ κ = 1 ∨ κ = 2 ∨ κ = 3 ∨ κ = 4 ∨ κ = 5 ∨ κ = 6 by omega) with rfl | rfl | rfl | rfl | rfl | rfl | rfl
  · rw [if_neg (by omega), if_neg (by omega), if_neg (by omega), if_neg (by omega), if_neg (by omega), if_neg (by omega)]
    exact ⟨q4, h4, v4⟩
  · rw [if_pos (by omega)]
    exact ⟨r, rfl, hr⟩
  · rw [if_neg (by omega), if_pos (by omega)]
    exact X3
  · rw [if_neg (by omega), if_neg (by omega), if_pos (by omega)]
    exact X0
  · rw [if_neg (by omega), if_neg (by omega), if_neg (by omega), if_pos (by omega)]
    show ∃ q, F_X6_strides μ r c0 x σ = (q, σ) ∧ _
    unfold F_X6_strides
    rw [show F_X8_strides μ r c0 x σ = (r, σ) from rfl, fb_e, fl_e]
    have d3 : (gi σ μ 2 / (3 : Int32)).toInt = S_vv S m / 3 := by rw [i_div (k := 3) (by omega) (by decide +kernel) rfl, hv]
    have sd : (r - gi σ μ 2 / (3 : Int32)).toInt = aPc S D p - S_vv S m / 3 := by rw [i_sub (by omega) (by omega), hr, d3]
    unfold pos0
    by_cases q : aPc S D p - S_vv S m / 3 ≤ 0
    · rw [if_pos (i_le (show _ ≤ (0 : Int) by omega)), if_pos q]; exact ⟨_, rfl, rfl⟩
    · rw [if_neg (i_nle (show (0 : Int) < _ by omega)), if_neg q]; exact ⟨_, rfl, sd⟩
  · rw [if_neg (by omega), if_neg (by omega), if_neg (by omega), if_neg (by omega), if_pos (by omega)]
    obtain ⟨q3, h3, v3⟩ := X3
    show ∃ q, F_X7_strides μ r c0 x σ = (q, σ) ∧ _
    unfold F_X7_strides
    rw [h3, fb_e, prsC sb db hs hd hx hp, fb_e]
    by_cases q : aPr S D p = true
    · rw [if_pos q, if_pos q, if_neg (show ¬ (1 : Int32) = 0 by decide +kernel)]
      exact ⟨_, rfl, by rw [i_add (y := (2 : Int32)) (by show (_ : Int) ≤ q3.toInt + 2; omega) (by show q3.toInt + 2 ≤ (_ : Int); omega), v3]; rfl⟩
    · rw [if_neg q, if_neg q, if_pos rfl]
      exact ⟨_, rfl, by rw [i_add (y := (0 : Int32)) (by show (_ : Int) ≤ q3.toInt + 0; omega) (by show q3.toInt + 0 ≤ (_ : Int); omega), v3]; show _ + (0 : Int) = _; omega⟩
  · rw [if_neg (by omega), if_neg (by omega), if_neg (by omega), if_neg (by omega), if_neg (by omega), if_pos (by omega)]
    obtain ⟨q0, h0, v0⟩ := X0
    have m9 := hd.1
    have md : (gi σ c0 9 - gi σ c0 9 / (4 : Int32) * (4 : Int32)).toInt = D_m D % 4 := by rw [i_rem (k := 4) (by omega) (by decide +kernel) rfl, m9]
    have m4 : ((4 : Int32) * gi σ μ 1).toInt = 4 * (gi σ μ 1).toInt := i_mull rfl (by omega) (by omega)
    have ad : (((4 : Int32) * gi σ μ 1) + (gi σ c0 9 - gi σ c0 9 / (4 : Int32) * (4 : Int32))).toInt = 4 * (m : Int) + D_m D % 4 := by rw [i_add (by omega) (by omega), m4, md, hn]
    have ec := cl_eq (x := ((4 : Int32) * gi σ μ 1) + (gi σ c0 9 - gi σ c0 9 / (4 : Int32) * (4 : Int32))) (by omega)
    have tl := hs.2.2.2.2.1 (4 * m + (D_m D % 4).toNat) (by omega)
    have tb := sb.2.2.2.2.1 (4 * m + (D_m D % 4).toNat) (by omega)
    show ∃ q, F_X10_strides μ r c0 x σ = (q, σ) ∧ _
    unfold F_X10_strides
    rw [h0, fb_e, show (((4 : Int32) * gi σ μ 1) + (gi σ c0 9 - gi σ c0 9 / (4 : Int32) * (4 : Int32))).toNatClampNeg = 4 * m + (D_m D % 4).toNat from by omega]
    exact ⟨_, rfl, by rw [i_add (by omega) (by omega), v0, tl]⟩
theorem strAtC {c0 n p : Nat} {K : Int} {S : Stc} {D : Dyn} {σ : Sg} {x : Int32} (hc : c0 ≤ 33) (sb : SBd n S) (db : DBd n K D) (hs : CS c0 n S σ) (hd : CDy c0 n D σ) (hx : x.toInt = (p : Int)) (hp : p < S_r S) :
    Rt (F_X1_strideAt c0 x σ) (fun r σ' => r.toInt = aSt S D p ∧ FXl c0 σ σ') := by
  have ex := cl_eq (x := x) (by omega)
  have ep : x.toNatClampNeg = p := by omega
  obtain ⟨m, em⟩ : ∃ m, m = S_ln S p := ⟨_, rfl⟩
  have hm : m < n := by rw [em]; exact sb.2.2.1 p hp
  have l := hs.2.2.1 p hp
  obtain ⟨μ, κ, g1, k7, k2, kk, k3, k4, k5, k6⟩ := hs.2.2.2.1 m hm
  have rb := aRw_b sb db hp
  unfold F_X1_strideAt
  rw [ep]
  refine Rt_fl (fun v2 e2 => ?_)
  have v2i : v2.toInt = (m : Int) := by rw [e2, l, em]
  have v2n : v2.toNatClampNeg = m := by have := cl_eq (x := v2) (by omega); omega
  rw [v2n]
  refine Rt_m (a := μ) (ci := cls κ) (z := 0) g1 kk ?_
  refine Rt_fb (pacC hc sb db hs hd hx hp) (fun r6 σ5 h => ?_)
  obtain ⟨h1, f5⟩ := h
  have hs5 := CS_m hc (FXs_n (FXl_s f5)) hs
  have hd5 := CDy_s (FXl_s f5) hd
  obtain ⟨q, j1, j2⟩ := strC (μ := μ) (κ := κ) sb db hs5 hd5 hx hp em k7 k3 (by rw [FXl_i f5 (by omega)]; exact k5) (by rw [FXl_i f5 (by omega)]; exact k6) h1
  refine Rt_fe j1 ?_
  have e4 := hd5.2.2.1 m hm
  unfold aSt
  rw [← em]
  by_cases c : D_ed D m = 0
  · refine Rt_t (i_eq (by rw [e4, c]; rfl)) (Rt_p ⟨?_, f5⟩)
    rw [if_pos c, i_div (k := 2) (by omega) (by decide +kernel) rfl, j2]
  · refine Rt_f (fun z => c (by rw [← e4, z]; rfl)) (Rt_p ⟨?_, f5⟩)
    rw [if_neg c, j2]
/-! a minute in the class: whoever is at a place goes on -/
theorem row_u {σ σ' : Sg} {a n m : Nat} {g : Nat → Int} {x : Int} (h : ∀ j, j < n → (gi σ a j).toInt = g j) (hm : (gi σ' a m).toInt = x) (ho : ∀ j, j ≠ m → gi σ' a j = gi σ a j) : ∀ j, j < n → (gi σ' a j).toInt = upi g m x j := by
  intro j hj
  by_cases e : j = m
  · subst e; rw [upi_e]; exact hm
  · rw [upi_n e, ho j e]; exact h j hj
theorem row_k {σ σ' : Sg} {a n : Nat} {g : Nat → Int} (h : ∀ j, j < n → (gi σ a j).toInt = g j) (ho : ∀ j, gi σ' a j = gi σ a j) : ∀ j, j < n → (gi σ' a j).toInt = g j := fun j hj => by rw [ho]; exact h j hj
/-- the same numbers again at one place -/
theorem row_s {σ σ' : Sg} {a n m : Nat} {g : Nat → Int} (h : ∀ j, j < n → (gi σ a j).toInt = g j) (hm : (gi σ' a m).toInt = (gi σ a m).toInt) (ho : ∀ j, j ≠ m → gi σ' a j = gi σ a j) : ∀ j, j < n → (gi σ' a j).toInt = g j := fun j hj => by
  by_cases e : j = m
  · subst e; rw [hm]; exact h j hj
  · rw [ho j e]; exact h j hj
theorem jmx0 {x : Int32} {a : Int} (h : x.toInt = a) : (jmax (0 : Int32) x).toInt = pos0 a := by
  rw [jmax_f, h]
  unfold pos0
  show (if (0 : Int) < a then a else 0) = _
  split <;> split <;> omega
theorem jmnI {x y : Int32} {a b : Int} (h : x.toInt = a) (g : y.toInt = b) : (jmin x y).toInt = mnI a b := by
  rw [jmin_f, h, g]; rfl
theorem lineC {c0 n p : Nat} {S : Stc} {σ : Sg} (sb : SBd n S) (hs : CS c0 n S σ) (hp : p < S_r S) : (gi σ (c0 + 2) p).toNatClampNeg = S_ln S p := by
  have l := hs.2.2.1 p hp
  have := cl_eq (x := gi σ (c0 + 2) p) (by omega)
  omega
theorem roomC {c0 n p : Nat} {K s : Int} {S : Stc} {D : Dyn} {σ : Sg} {x : Int32} (sb : SBd n S) (db : DBd n K D) (hs : CS c0 n S σ) (hd : CDy c0 n D σ) (hx : x.toInt = (p : Int)) (hp : p < S_r S) (hst : (gi σ (c0 + 14) p).toInt = s) (sb2 : 0 ≤ s ∧ s ≤ 1007) :
    ∃ r, F_X1_roomAt c0 x σ = (r, σ) ∧ r.toInt = aFar S s D p := by
  have ex := cl_eq (x := x) (by omega)
  have ep : x.toNatClampNeg = p := by omega
  obtain ⟨m, em⟩ : ∃ m, m = S_ln S p := ⟨_, rfl⟩
  have hm : m < n := by rw [em]; exact sb.2.2.1 p hp
  have ln := lineC sb hs hp
  have n6 := sb.1
  have a0 := hd.2.1 m hm
  obtain ⟨u1, -⟩ := db.2 m hm
  unfold F_X1_roomAt
  rw [ep, fl_e, ln, ← em]
  have sm : (gi σ (c0 + 3) m + gi σ (c0 + 14) p).toInt = D_at D m + s := by rw [i_add (by omega) (by omega), a0, hst]
  have v5 := jmnI (y := (9999 : Int32)) (b := 9999) sm rfl
  have fin : ∀ (v : Int32) (a : Int), v.toInt = a → -1000 ≤ a ∧ a ≤ 9999 → ∃ r, LF_X1_roomAt c0 9 (gi σ (c0 + 2) p) v σ = (r, σ) ∧ r.toInt = pos0 (a - D_at D m) := by
    intro v a hv ha
    show ∃ r, LB_X1_roomAt_54 c0 (LF_X1_roomAt c0 8) (gi σ (c0 + 2) p) v σ = (r, σ) ∧ _
    unfold LB_X1_roomAt_54
    rw [ln, ← em, fl_e]
    exact ⟨_, rfl, jmx0 (by rw [i_sub (by omega) (by omega), hv, a0])⟩
  have mb := @mnI_b (D_at D m + s) 9999
  rw [fl_e]
  unfold aFar
  rw [← em]
  by_cases q : p = 0
  · rw [if_pos (i_le (show _ ≤ (0 : Int) by omega)), if_pos q]
    exact fin _ _ v5 (by omega)
  · obtain ⟨g, hg, gt⟩ := gapC hs
    have gb := sb.2.2.2.2.2.1
    have hp1 : p - 1 < S_r S := by omega
    have x1 : (x - (1 : Int32)).toInt = x.toInt - 1 := i_pred (by omega)
    have ex1 := cl_eq (x := x - (1 : Int32)) (by omega)
    have m1 := sb.2.2.1 _ hp1
    have a1 := hd.2.1 _ m1
    have b1 := (db.2 _ m1).1
    rw [if_neg (i_nle (show (0 : Int) < _ by omega)), if_neg q, hg, fb_e, show (x - (1 : Int32)).toNatClampNeg = p - 1 from by omega, lineC sb hs hp1, fl_e]
    have sg : (gi σ (c0 + 3) (S_ln S (p - 1)) - g).toInt = D_at D (S_ln S (p - 1)) - S_gp S := by rw [i_sub (by omega) (by omega), a1, gt]
    have mb2 := @mnI_b (mnI (D_at D m + s) 9999) (D_at D (S_ln S (p - 1)) - S_gp S)
    exact fin _ _ (jmnI v5 sg) (by omega)
set_option maxHeartbeats 4000000 in
theorem goC {c0 n p : Nat} {K s : Int} {S : Stc} {D : Dyn} {σ : Sg} {x1 x2 : Int32} (hc : c0 ≤ 33) (sb : SBd n S) (db : DBd n K D) (hs : CS c0 n S σ) (hd : CDy c0 n D σ) (hx : x2.toInt = (p : Int)) (hp : p < S_r S) (hst : (gi σ (c0 + 14) p).toInt = s) (sb2 : 0 ≤ s ∧ s ≤ 1007) (k : Nat) :
    ∃ σ', LF_X1_goesMinute c0 (k + 2) 1 x1 x2 0 0 σ = LF_X1_goesMinute c0 k 1 (if aHd S s D p = true then x1 ||| ((1 : Int32) <<< ((nI (S_ln S p)) &&& 31)) else x1) (x2 + 1) 0 0 σ' ∧ CDy c0 n (aGo S s D p) σ' ∧ FXn c0 n σ σ' ∧ ∀ q, gi σ' (c0 + 14) q = gi σ (c0 + 14) q := by
  have ex := cl_eq (x := x2) (by omega)
  have ep : x2.toNatClampNeg = p := by omega
  obtain ⟨m, em⟩ : ∃ m, m = S_ln S p := ⟨_, rfl⟩
  have hm : m < n := by rw [em]; exact sb.2.2.1 p hp
  have n6 := sb.1
  have ln := lineC sb hs hp
  have li := hs.2.2.1 p hp
  have lI : gi σ (c0 + 2) p = nI m := by rw [em, ← ln]; exact nI_ofI (by omega)
  obtain ⟨u1, u2, u3, u4⟩ := db.2 m hm
  have h3 := hs.2.1
  obtain ⟨d1, d2, d3, d4, d5⟩ := hd
  have a2 := d2 m hm
  have a3 := d3 m hm
  have a4 := d4 m hm
  have a5 := d5 m hm
  have lm : (nI m).toNatClampNeg = m := by rw [← lI, ln, em]
  have tb := sb.2.2.2.2.2.2.1
  show ∃ σ', LB_X1_goesMinute_31 c0 (LF_X1_goesMinute c0 (k + 1)) x1 x2 σ = _ ∧ _
  unfold LB_X1_goesMinute_31
  rw [if_neg (i_nle (show x2.toInt < _ by omega)), ep, fl_e, lI, lm]
  unfold aHd aGo
  rw [← em]
  by_cases c : 0 < D_st D m
  · rw [if_neg (i_nle (show (0 : Int) < _ by omega)), if_pos c, if_pos c, if_neg (by decide +kernel), fl_e]
    show ∃ σ', LB_X1_goesMinute_95 c0 (LF_X1_goesMinute c0 k) x1 x2 (nI m) (0 : Int32) _ = _ ∧ _
    unfold LB_X1_goesMinute_95
    rw [lm, fl_e, if_pos (show (0 : Int32) ≤ 0 by decide +kernel)]
    unfold F_X1_wears
    rw [if_pos rfl, lm]
    simp only [fl_e]
    obtain ⟨σa, ea⟩ : ∃ σa, σa = si σ (c0 + 6) m (gi σ (c0 + 6) m - (1 : Int32)) := ⟨_, rfl⟩
    rw [← ea]
    obtain ⟨σb, eb⟩ : ∃ σb, σb = si σa (c0 + 3) m (gi σa (c0 + 3) m + (0 : Int32)) := ⟨_, rfl⟩
    rw [← eb]
    obtain ⟨σd, ed⟩ : ∃ σd, σd = si σb (c0 + 5) m (jmax (0 : Int32) (gi σb (c0 + 5) m - (2 : Int32))) := ⟨_, rfl⟩
    rw [← ed]
    have g3a : gi σa (c0 + 3) m = gi σ (c0 + 3) m := by rw [ea, gi_si_ne (Or.inl (by omega))]
    have g5b : gi σb (c0 + 5) m = gi σ (c0 + 5) m := by rw [eb, gi_si_ne (Or.inl (by omega)), ea, gi_si_ne (Or.inl (by omega))]
    refine ⟨σd, rfl, ⟨?_, ?_, ?_, ?_, ?_⟩, ?_, fun q => ?_⟩
    · rw [ed, gi_si_ne (Or.inl (by omega)), eb, gi_si_ne (Or.inl (by omega)), ea, gi_si_ne (Or.inl (by omega))]; exact d1
    · refine row_s d2 (m := m) ?_ (fun j hj => ?_)
      · rw [ed, gi_si_ne (Or.inl (by omega)), eb, gi_si_eq, g3a, i_add (y := (0 : Int32)) (by show (_ : Int) ≤ _ + 0; omega) (by show _ + 0 ≤ (_ : Int); omega)]; show _ + (0 : Int) = _; omega
      · rw [ed, gi_si_ne (Or.inl (by omega)), eb, gi_si_ne (Or.inr hj), ea, gi_si_ne (Or.inl (by omega))]
    · exact row_k d3 (fun j => by rw [ed, gi_si_ne (Or.inl (by omega)), eb, gi_si_ne (Or.inl (by omega)), ea, gi_si_ne (Or.inl (by omega))])
    · refine row_u d4 ?_ (fun j hj => ?_)
      · rw [ed, gi_si_eq, g5b]; exact jmx0 (by rw [i_sub (y := (2 : Int32)) (by show (_ : Int) ≤ _ - 2; omega) (by show _ - 2 ≤ (_ : Int); omega), a4]; rfl)
      · rw [ed, gi_si_ne (Or.inr hj), eb, gi_si_ne (Or.inl (by omega)), ea, gi_si_ne (Or.inl (by omega))]
    · refine row_u d5 ?_ (fun j hj => ?_)
      · rw [ed, gi_si_ne (Or.inl (by omega)), eb, gi_si_ne (Or.inl (by omega)), ea, gi_si_eq, i_pred (by omega), a5]
      · rw [ed, gi_si_ne (Or.inl (by omega)), eb, gi_si_ne (Or.inl (by omega)), ea, gi_si_ne (Or.inr hj)]
    · rw [ed, eb, ea]
      exact FXn_si (FXn_si (FXn_si FXn_rf (by omega)) (by omega)) (by omega)
    · rw [ed, gi_si_ne (Or.inl (by omega)), eb, gi_si_ne (Or.inl (by omega)), ea, gi_si_ne (Or.inl (by omega))]
  · obtain ⟨far, r1, r2⟩ := roomC sb db hs ⟨d1, d2, d3, d4, d5⟩ hx hp hst sb2
    have fb9 := aFar_b (s := s) sb db hp
    rw [← em] at fb9
    rw [if_pos (i_le (show _ ≤ (0 : Int) by omega)), if_neg c, if_neg c, r1, fb_e]
    have two : (if gi σ (c0 + 14) p ≤ far then LF_X1_goesMinute c0 (k + 1) 2 x1 x2 (nI m) far σ else fl (x1 ||| ((1 : Int32) <<< ((nI m) &&& 31))) (fun v11 => LF_X1_goesMinute c0 (k + 1) 2 v11 x2 (nI m) far σ)) = LB_X1_goesMinute_95 c0 (LF_X1_goesMinute c0 k) (if decide (aFar S s D p < s) = true then x1 ||| ((1 : Int32) <<< ((nI m) &&& 31)) else x1) x2 (nI m) far σ := by
      by_cases q : aFar S s D p < s
      · rw [if_neg (i_nle (by omega)), decide_eq_true q, if_pos rfl, fl_e]; rfl
      · rw [if_pos (i_le (by omega)), decide_eq_false q, if_neg (by decide +kernel)]; rfl
    rw [two]
    obtain ⟨y1, ey⟩ : ∃ y1, y1 = (if decide (aFar S s D p < s) = true then x1 ||| ((1 : Int32) <<< ((nI m) &&& 31)) else x1) := ⟨_, rfl⟩
    rw [← ey]
    unfold LB_X1_goesMinute_95
    rw [lm, fl_e]
    obtain ⟨σb, eb⟩ : ∃ σb, σb = si σ (c0 + 3) m (gi σ (c0 + 3) m + far) := ⟨_, rfl⟩
    rw [← eb]
    have g5b : gi σb (c0 + 5) m = gi σ (c0 + 5) m := by rw [eb, gi_si_ne (Or.inl (by omega))]
    have g4b : gi σb (c0 + 4) m = gi σ (c0 + 4) m := by rw [eb, gi_si_ne (Or.inl (by omega))]
    have at2 : (gi σ (c0 + 3) m + far).toInt = D_at D m + aFar S s D p := by rw [i_add (by omega) (by omega), a2, r2]
    by_cases w : 0 < aFar S s D p
    · rw [if_neg (i_nle (show (0 : Int) < _ by omega)), if_pos w]
      unfold F_X1_wears
      rw [if_neg (show ¬ (1 : Int32) = 0 by decide +kernel), lm, g4b]
      obtain ⟨s1, s2, s3, s4, s5, ⟨f, g10, hf, fa⟩, s7, s8⟩ := hs
      simp only [fl_e]
      obtain ⟨σd, ed⟩ : ∃ σd, σd = si σb (c0 + 4) m (jmax (0 : Int32) (gi σ (c0 + 4) m - (1 : Int32))) := ⟨_, rfl⟩
      rw [← ed]
      have gd : gr σd c0 10 = some f := by rw [ed, eb]; exact g10
      rw [gd]
      show ∃ σ', LF_X1_goesMinute c0 k 1 y1 (x2 + 1) 0 0 (si σd (c0 + 5) m (jmin (99 : Int32) (gi σd (c0 + 5) m + gi σd f 1))) = _ ∧ _
      have g5d : gi σd (c0 + 5) m = gi σ (c0 + 5) m := by rw [ed, gi_si_ne (Or.inl (by omega)), g5b]
      have gf : gi σd f 1 = gi σ f 1 := by rw [ed, gi_si_ne (Or.inl (by omega)), eb, gi_si_ne (Or.inl (by omega))]
      have gfv : (gi σ f 1).toInt = S_tr S := by rw [s7]; exact fa.2.1.2.1
      rw [g5d, gf]
      obtain ⟨σe, ee⟩ : ∃ σe, σe = si σd (c0 + 5) m (jmin (99 : Int32) (gi σ (c0 + 5) m + gi σ f 1)) := ⟨_, rfl⟩
      rw [← ee]
      refine ⟨σe, rfl, ⟨?_, ?_, ?_, ?_, ?_⟩, ?_, fun q => ?_⟩
      · rw [ee, gi_si_ne (Or.inl (by omega)), ed, gi_si_ne (Or.inl (by omega)), eb, gi_si_ne (Or.inl (by omega))]; exact d1
      · refine row_u d2 ?_ (fun j hj => ?_)
        · rw [ee, gi_si_ne (Or.inl (by omega)), ed, gi_si_ne (Or.inl (by omega)), eb, gi_si_eq]; exact at2
        · rw [ee, gi_si_ne (Or.inl (by omega)), ed, gi_si_ne (Or.inl (by omega)), eb, gi_si_ne (Or.inr hj)]
      · refine row_u d3 ?_ (fun j hj => ?_)
        · rw [ee, gi_si_ne (Or.inl (by omega)), ed, gi_si_eq]; exact jmx0 (by rw [i_sub (y := (1 : Int32)) (by show (_ : Int) ≤ _ - 1; omega) (by show _ - 1 ≤ (_ : Int); omega), a3]; rfl)
        · rw [ee, gi_si_ne (Or.inl (by omega)), ed, gi_si_ne (Or.inr hj), eb, gi_si_ne (Or.inl (by omega))]
      · refine row_u d4 ?_ (fun j hj => ?_)
        · rw [ee, gi_si_eq]; exact jmnI (a := 99) rfl (by rw [i_add (by omega) (by omega), a4, gfv])
        · rw [ee, gi_si_ne (Or.inr hj), ed, gi_si_ne (Or.inl (by omega)), eb, gi_si_ne (Or.inl (by omega))]
      · exact row_k d5 (fun j => by rw [ee, gi_si_ne (Or.inl (by omega)), ed, gi_si_ne (Or.inl (by omega)), eb, gi_si_ne (Or.inl (by omega))])
      · rw [ee, ed, eb]
        exact FXn_si (FXn_si (FXn_si FXn_rf (by omega)) (by omega)) (by omega)
      · rw [ee, gi_si_ne (Or.inl (by omega)), ed, gi_si_ne (Or.inl (by omega)), eb, gi_si_ne (Or.inl (by omega))]
    · rw [if_pos (i_le (show _ ≤ (0 : Int) by omega)), if_neg w]
      unfold F_X1_wears
      rw [if_pos rfl, lm, g5b]
      simp only [fl_e]
      obtain ⟨σd, ed⟩ : ∃ σd, σd = si σb (c0 + 5) m (jmax (0 : Int32) (gi σ (c0 + 5) m - (2 : Int32))) := ⟨_, rfl⟩
      rw [← ed]
      refine ⟨σd, rfl, ⟨?_, ?_, ?_, ?_, ?_⟩, ?_, fun q => ?_⟩
      · rw [ed, gi_si_ne (Or.inl (by omega)), eb, gi_si_ne (Or.inl (by omega))]; exact d1
      · refine row_s d2 (m := m) ?_ (fun j hj => ?_)
        · rw [ed, gi_si_ne (Or.inl (by omega)), eb, gi_si_eq, at2, a2]; omega
        · rw [ed, gi_si_ne (Or.inl (by omega)), eb, gi_si_ne (Or.inr hj)]
      · exact row_k d3 (fun j => by rw [ed, gi_si_ne (Or.inl (by omega)), eb, gi_si_ne (Or.inl (by omega))])
      · refine row_u d4 ?_ (fun j hj => ?_)
        · rw [ed, gi_si_eq]; exact jmx0 (by rw [i_sub (y := (2 : Int32)) (by show (_ : Int) ≤ _ - 2; omega) (by show _ - 2 ≤ (_ : Int); omega), a4]; rfl)
        · rw [ed, gi_si_ne (Or.inr hj), eb, gi_si_ne (Or.inl (by omega))]
      · exact row_k d5 (fun j => by rw [ed, gi_si_ne (Or.inl (by omega)), eb, gi_si_ne (Or.inl (by omega))])
      · rw [ed, eb]
        exact FXn_si (FXn_si FXn_rf (by omega)) (by omega)
      · rw [ed, gi_si_ne (Or.inl (by omega)), eb, gi_si_ne (Or.inl (by omega))]
theorem gosC {c0 n : Nat} {S : Stc} {st : Nat → Int} (hc : c0 ≤ 33) (sb : SBd n S) (hst : ∀ q, q < S_r S → 0 ≤ st q ∧ st q ≤ 1007) : ∀ (k p : Nat) (l : List Nat) (D : Dyn) (K : Int) (σ : Sg) (N : Nat) (x1 x2 : Int32), p + k = S_r S → 2 * k + 1 ≤ N → K ≤ 200000 → DBd n K D → CS c0 n S σ → CDy c0 n D σ → x2.toInt = (p : Int) → x1 = hset l → (∀ q, q < S_r S → (gi σ (c0 + 14) q).toInt = st q) →
    Rt (LF_X1_goesMinute c0 N 1 x1 x2 0 0 σ) (fun r σ' => r = hset (aGos S st k p l D).1 ∧ CDy c0 n (aGos S st k p l D).2 σ' ∧ FXn c0 n σ σ') := by
  intro k
  induction k with
  | zero =>
    intro p l D K σ N x1 x2 hp hN hK db hs hd hx h1 hq
    obtain ⟨N, rfl⟩ : ∃ j, N = j + 1 := ⟨N - 1, by omega⟩
    have h3 := hs.2.1
    obtain ⟨d1, d2, d3, d4, d5⟩ := hd
    have dm := db.1
    show Rt (LB_X1_goesMinute_31 c0 (LF_X1_goesMinute c0 N) x1 x2 σ) _
    unfold LB_X1_goesMinute_31
    refine Rt_t (i_le (by omega)) ?_
    refine Rt_fl (fun σ2 e2 => Rt_p ⟨h1, ⟨?_, ?_, ?_, ?_, ?_⟩, ?_⟩)
    · rw [e2, gi_si_eq, i_add (y := (1 : Int32)) (by show (_ : Int) ≤ _ + 1; omega) (by show _ + 1 ≤ (_ : Int); omega), d1]; rfl
    · exact row_k d2 (fun j => by rw [e2, gi_si_ne (Or.inl (by omega))])
    · exact row_k d3 (fun j => by rw [e2, gi_si_ne (Or.inl (by omega))])
    · exact row_k d4 (fun j => by rw [e2, gi_si_ne (Or.inl (by omega))])
    · exact row_k d5 (fun j => by rw [e2, gi_si_ne (Or.inl (by omega))])
    · rw [e2]; exact FX_si FX_rf (Or.inr (Or.inl ⟨rfl, rfl⟩))
  | succ k ih =>
    intro p l D K σ N x1 x2 hp hN hK db hs hd hx h1 hq
    obtain ⟨N, rfl⟩ : ∃ j, N = j + 2 := ⟨N - 2, by omega⟩
    have hp' : p < S_r S := by omega
    have n6 := sb.1
    have rn := sb.2.1
    have x3 : (x2 + (1 : Int32)).toInt = x2.toInt + 1 := i_add (y := (1 : Int32)) (by show (_ : Int) ≤ x2.toInt + 1; omega) (by show x2.toInt + 1 ≤ (_ : Int); omega)
    obtain ⟨σ1, g1, g2, g3, g4⟩ := goC (x1 := x1) hc sb db hs hd hx hp' (hq p hp') (hst p hp') N
    rw [g1]
    refine Rt_w (ih (p + 1) (if aHd S (st p) D p = true then l ++ [S_ln S p] else l) (aGo S (st p) D p) K σ1 N _ _ (by omega) (by omega) hK (aGo_b sb db hp') (CS_m hc g3 hs) g2 (by omega) ?_ (fun q hq' => by rw [g4]; exact hq q hq')) (fun r σ' h => ⟨h.1, h.2.1, FXn_tr g3 h.2.2⟩)
    by_cases a : aHd S (st p) D p = true
    · rw [if_pos a, if_pos a, hset_ap, h1]
    · rw [if_neg a, if_neg a]; exact h1
theorem strsC {c0 n : Nat} {K : Int} {S : Stc} {D : Dyn} (hc : c0 ≤ 33) (sb : SBd n S) (db : DBd n K D) (hK : K ≤ 200000) : ∀ (k p : Nat) (σ : Sg) (N : Nat) (x1 : Int32), p + k = S_r S → k + 2 * S_r S + 2 ≤ N → CS c0 n S σ → CDy c0 n D σ → x1.toInt = (p : Int) → (∀ q, q < p → (gi σ (c0 + 14) q).toInt = aSt S D q) →
    Rt (LF_X1_goesMinute c0 N 0 x1 0 0 0 σ) (fun r σ' => r = hset (aMin S D).1 ∧ CDy c0 n (aMin S D).2 σ' ∧ FXn c0 n σ σ') := by
  intro k
  induction k with
  | zero =>
    intro p σ N x1 hp hN hs hd hx hq
    obtain ⟨N, rfl⟩ : ∃ j, N = j + 1 := ⟨N - 1, by omega⟩
    have h3 := hs.2.1
    show Rt (LB_X1_goesMinute_2 c0 (LF_X1_goesMinute c0 N) x1 σ) _
    unfold LB_X1_goesMinute_2
    refine Rt_t (i_le (by omega)) ?_
    exact gosC hc sb (fun q hq' => aSt_b sb db hq') (S_r S) 0 [] D K σ N (0 : Int32) (0 : Int32) (by omega) (by omega) hK db hs hd rfl rfl (fun q hq' => hq q (by omega))
  | succ k ih =>
    intro p σ N x1 hp hN hs hd hx hq
    obtain ⟨N, rfl⟩ : ∃ j, N = j + 1 := ⟨N - 1, by omega⟩
    have h3 := hs.2.1
    have n6 := sb.1
    have rn := sb.2.1
    have hp' : p < S_r S := by omega
    have ex := cl_eq (x := x1) (by omega)
    have ep : x1.toNatClampNeg = p := by omega
    have x3 : (x1 + (1 : Int32)).toInt = x1.toInt + 1 := i_add (y := (1 : Int32)) (by show (_ : Int) ≤ x1.toInt + 1; omega) (by show x1.toInt + 1 ≤ (_ : Int); omega)
    show Rt (LB_X1_goesMinute_2 c0 (LF_X1_goesMinute c0 N) x1 σ) _
    unfold LB_X1_goesMinute_2
    refine Rt_f (i_nle (by omega)) ?_
    refine Rt_fb (strAtC hc sb db hs hd hx hp') (fun r3 σ2 h => ?_)
    obtain ⟨h1, f2⟩ := h
    rw [ep]
    refine Rt_fl (fun σ5 e5 => ?_)
    have f5 : FXs c0 σ σ5 := by rw [e5]; exact FX_si (FXl_s f2) (Or.inl (Or.inl rfl))
    refine Rt_fl (fun v6 e6 => ?_)
    refine Rt_w (ih (p + 1) σ5 N v6 (by omega) (by omega) (CS_m hc (FXs_n f5) hs) (CDy_s f5 hd) (by rw [e6]; omega) (fun q hq' => ?_)) (fun r σ' h => ⟨h.1, h.2.1, FXn_tr (FXs_n f5) h.2.2⟩)
    by_cases e : q = p
    · subst e; rw [e5, gi_si_eq]; exact h1
    · rw [e5, gi_si_ne (Or.inr e), FXl_i f2 (by omega)]; exact hq q (by omega)
theorem minC {c0 n : Nat} {K : Int} {S : Stc} {D : Dyn} {σ : Sg} (hc : c0 ≤ 33) (sb : SBd n S) (db : DBd n K D) (hK : K ≤ 200000) (hs : CS c0 n S σ) (hd : CDy c0 n D σ) :
    Rt (F_X1_goesMinute c0 σ) (fun r σ' => r = hset (aMin S D).1 ∧ CDy c0 n (aMin S D).2 σ' ∧ FXn c0 n σ σ') := by
  have n6 := sb.1
  have rn := sb.2.1
  unfold F_X1_goesMinute
  exact strsC hc sb db hK (S_r S) 0 σ 900 (0 : Int32) (by omega) (by omega) hs hd rfl (fun q h => absurd h (Nat.not_lt_zero q))
/-! a minute in the model -/
noncomputable def MT (n : Nat) (S : Stc) (σ : Sg) : Prop :=
  (gi σ 74 2).toInt = (S_r S : Int) ∧ (∀ p, p < S_r S → (gi σ 110 p).toInt = (S_ln S p : Int))
  ∧ (∀ m, m < n → (gi σ 103 m).toInt = S_kn S m) ∧ (∀ m, m < n → (gi σ 104 m).toInt = S_vv S m) ∧ (∀ k, k < 24 → (gi σ 109 k).toInt = S_tl S k)
  ∧ MH σ (S_cl S) ∧ S_tr S = (lastW 3 1 (S_cl S) : Int)
  ∧ ((0 ≤ (gi σ 74 28).toInt ∧ S_gp S = (gi σ 74 28).toInt) ∨ ((gi σ 74 28).toInt < 0 ∧ S_gp S = (lastW 2 2 (S_cl S) : Int)))
noncomputable def MDy (n : Nat) (D : Dyn) (σ : Sg) : Prop := (gi σ 74 1).toInt = D_m D ∧ (∀ m, m < n → (gi σ 105 m).toInt = D_at D m) ∧ (∀ m, m < n → (gi σ 106 m).toInt = D_ed D m) ∧ (∀ m, m < n → (gi σ 107 m).toInt = D_ti D m) ∧ (∀ m, m < n → (gi σ 108 m).toInt = D_st D m)
theorem MT_eq {n : Nat} {S : Stc} {σ σ' : Sg} (e : ∀ id k, (id = 74 ∧ (k = 2 ∨ k = 12 ∨ k = 28)) ∨ id = 103 ∨ id = 104 ∨ id = 109 ∨ id = 110 ∨ (117 ≤ id ∧ id ≤ 122) → gi σ' id k = gi σ id k) (h : MT n S σ) : MT n S σ' := by
  obtain ⟨h2, h3, h4, h5, h6, h7, h8, h9⟩ := h
  refine ⟨by rw [e 74 2 (by omega)]; exact h2, fun p hp => by rw [e 110 p (by omega)]; exact h3 p hp, fun m hm => by rw [e 103 m (by omega)]; exact h4 m hm, fun m hm => by rw [e 104 m (by omega)]; exact h5 m hm, fun k hk => by rw [e 109 k (by omega)]; exact h6 k hk, MH_eq (e 74 12 (by omega)) (fun id k a b => e id k (by omega)) h7, h8, by rw [e 74 28 (by omega)]; exact h9⟩
theorem MDy_eq {n : Nat} {D : Dyn} {σ σ' : Sg} (e : ∀ id k, (id = 74 ∧ k = 1) ∨ (105 ≤ id ∧ id ≤ 108) → gi σ' id k = gi σ id k) (h : MDy n D σ) : MDy n D σ' := by
  obtain ⟨h1, h2, h3, h4, h5⟩ := h
  exact ⟨by rw [e 74 1 (by omega)]; exact h1, fun m hm => by rw [e 105 m (by omega)]; exact h2 m hm, fun m hm => by rw [e 106 m (by omega)]; exact h3 m hm, fun m hm => by rw [e 107 m (by omega)]; exact h4 m hm, fun m hm => by rw [e 108 m (by omega)]; exact h5 m hm⟩
/-- frames: the pile and the place seen; and strides; the moving rows; all of a minute -/
noncomputable def FXa (σ σ' : Sg) : Prop := FX (fun id => id = 129) (fun id k => id = 74 ∧ k = 30) σ σ'
noncomputable def FXd (n : Nat) (σ σ' : Sg) : Prop := FX (fun _ => False) (fun id k => 105 ≤ id ∧ id ≤ 108 ∧ k < n) σ σ'
noncomputable def FXq (n : Nat) (σ σ' : Sg) : Prop := FX (fun id => id = 129 ∨ id = 131 ∨ id = 132) (fun id k => (id = 74 ∧ (k = 1 ∨ k = 30)) ∨ (105 ≤ id ∧ id ≤ 108 ∧ k < n)) σ σ'
theorem FXq_rf {n : Nat} {σ : Sg} : FXq n σ σ := FX_rf
theorem FXq_tr {n : Nat} {σ σ1 σ2 : Sg} (f : FXq n σ σ1) (g : FXq n σ1 σ2) : FXq n σ σ2 := FX_tr f g (fun _ h => h) (fun _ _ h => Or.inr h)
theorem FXa_q {n : Nat} {σ σ1 : Sg} (f : FXa σ σ1) : FXq n σ σ1 := FX_tr FX_rf f (fun _ h => Or.inl h) (fun _ _ h => Or.inr (Or.inl ⟨h.1, Or.inr h.2⟩))
theorem FXd_q {n : Nat} {σ σ1 : Sg} (f : FXd n σ σ1) : FXq n σ σ1 := FX_tr FX_rf f (fun _ h => h.elim) (fun _ _ h => Or.inr (Or.inr h))
theorem FXa_i {σ σ1 : Sg} (f : FXa σ σ1) {id k : Nat} (h : id ≠ 129 ∧ (id ≠ 74 ∨ k ≠ 30)) : gi σ1 id k = gi σ id k := FX_i f (fun z => by (try dsimp only at z); omega) (fun z => by (try dsimp only at z); omega)
theorem FXd_i {n : Nat} {σ σ1 : Sg} (f : FXd n σ σ1) {id k : Nat} (h : id < 105 ∨ 108 < id ∨ n ≤ k) : gi σ1 id k = gi σ id k := FX_i f (fun z => z) (fun z => by (try dsimp only at z); omega)
theorem FXq_i {n : Nat} {σ σ1 : Sg} (f : FXq n σ σ1) {id k : Nat} (h : (id < 105 ∨ 108 < id ∨ n ≤ k) ∧ id ≠ 129 ∧ id ≠ 131 ∧ id ≠ 132 ∧ (id ≠ 74 ∨ (k ≠ 1 ∧ k ≠ 30))) : gi σ1 id k = gi σ id k := FX_i f (fun z => by (try dsimp only at z); omega) (fun z => by (try dsimp only at z); omega)
theorem MT_q {n n' : Nat} {S : Stc} {σ σ1 : Sg} (f : FXq n' σ σ1) (h : MT n S σ) : MT n S σ1 := MT_eq (fun id k a => FXq_i f (by omega)) h
theorem MDy_a {n : Nat} {D : Dyn} {σ σ1 : Sg} (f : FXa σ σ1) (h : MDy n D σ) : MDy n D σ1 := MDy_eq (fun id k a => FXa_i f (by omega)) h
theorem lastLM {w d B : Nat} {x1 : Int32} {cl : List Cls} {σ : Sg} (hl : cl.length ≤ 10) (hT : (toksOf cl).length ≤ 100) (h1 : x1.toInt = (w : Int)) (h : MH σ cl) (hB : bgn σ = B) :
    ∀ (l pre : List Cls) (n : Nat) (x3 x4 : Int32), cl = pre ++ l → x3.toInt = (lastW w d pre : Int) → x4.toInt = (B : Int) + (pre.length : Int) → l.length < n →
      ∃ r, LF_X12_lastOf n x1 x3 x4 σ = (r, σ) ∧ r.toInt = (lastW w d cl : Int) := by
  obtain ⟨r1, r2, b1, b2, b3, b4, b5, b6⟩ := MH_beg h hl hT
  rw [hB] at b4 b5 b6
  intro l
  induction l with
  | nil =>
    intro pre n x3 x4 e h3 h4 hn
    rw [List.append_nil] at e
    obtain ⟨n, rfl⟩ : ∃ k, n = k + 1 := ⟨n - 1, by omega⟩
    show ∃ r, LB_X12_lastOf_8 (LF_X12_lastOf n) x1 x3 x4 σ = (r, σ) ∧ _
    unfold LB_X12_lastOf_8
    rw [b2, fb_e, if_pos (show r2 ≤ x4 from i_le (by rw [e] at b4; omega))]
    exact ⟨x3, rfl, by rw [e]; exact h3⟩
  | cons c l ih =>
    intro pre n x3 x4 e h3 h4 hn
    rw [List.length_cons] at hn
    obtain ⟨n, rfl⟩ : ∃ k, n = k + 1 := ⟨n - 1, by omega⟩
    have hg : cl[pre.length]? = some c := by rw [e]; exact get_pc
    obtain ⟨g1, g2, -⟩ := b6 _ _ hg
    have hlen : cl.length = pre.length + (l.length + 1) := by rw [e, List.length_append]; rfl
    have ec := cl_eq (x := x4) (by omega)
    have ek : x4.toNatClampNeg = B + pre.length := by omega
    have t9 : (x4 + (1 : Int32)).toInt = x4.toInt + 1 := i_add (y := (1 : Int32)) (by show (_ : Int) ≤ x4.toInt + 1; omega) (by show x4.toInt + 1 ≤ (_ : Int); omega)
    have hpl : ((pre ++ [c]).length : Int) = (pre.length : Int) + 1 := by rw [List.length_append]; show ((pre.length + 1 : Nat) : Int) = _; omega
    show ∃ r, LB_X12_lastOf_8 (LF_X12_lastOf n) x1 x3 x4 σ = (r, σ) ∧ _
    unfold LB_X12_lastOf_8
    rw [b2, fb_e, if_neg (show ¬ r2 ≤ x4 from i_nle (by omega)), ek]
    have la := lastW_ap (w := w) (d := d) (cl := pre) (c := c)
    by_cases q : c.1 = w
    · rw [if_pos q] at la
      rw [if_pos (show gi σ 118 (B + pre.length) = x1 from i_eq (by omega)), fl_e, fl_e]
      exact ih (pre ++ [c]) n _ _ (by rw [e, List.append_assoc]; rfl) (by rw [la]; exact g2) (by rw [t9, hpl]; omega) (by omega)
    · rw [if_neg q] at la
      rw [if_neg (show ¬ gi σ 118 (B + pre.length) = x1 from i_ne (by omega)), fl_e]
      exact ih (pre ++ [c]) n _ _ (by rw [e, List.append_assoc]; rfl) (by rw [la]; exact h3) (by rw [t9, hpl]; omega) (by omega)
theorem lastM {w d : Nat} {x1 x2 : Int32} {cl : List Cls} {σ : Sg} (hl : cl.length ≤ 10) (hT : (toksOf cl).length ≤ 100) (h1 : x1.toInt = (w : Int)) (h2 : x2.toInt = (d : Int)) (h : MH σ cl) : ∃ r, F_X12_lastOf x1 x2 σ = (r, σ) ∧ r.toInt = (lastW w d cl : Int) := by
  obtain ⟨r1, r2, b1, b2, b3, b4, b5, b6⟩ := MH_beg h hl hT
  unfold F_X12_lastOf
  rw [b1, fb_e]
  exact lastLM (d := d) hl hT h1 h rfl cl [] 90 x2 r1 rfl (by rw [h2]; rfl) (by rw [b3]; show _ = (bgn σ : Int) + ((0 : Nat) : Int); omega) (by omega)
theorem gapM {n : Nat} {S : Stc} {σ : Sg} (sb : SBd n S) (hs : MT n S σ) : ∃ r, F_X12_gap σ = (r, σ) ∧ r.toInt = S_gp S := by
  obtain ⟨-, -, -, -, -, h7, -, h9⟩ := hs
  obtain ⟨-, -, -, -, -, -, -, -, cl10, tk⟩ := sb
  unfold F_X12_gap
  rcases h9 with ⟨a, b⟩ | ⟨a, b⟩
  · rw [if_pos (i_le (a := (0 : Int32)) (b := gi σ 74 28) a)]; exact ⟨_, rfl, b.symm⟩
  · obtain ⟨r, l1, l2⟩ := lastM (w := 2) (d := 2) (x1 := (2 : Int32)) (x2 := (2 : Int32)) cl10 tk rfl rfl h7
    rw [if_neg (i_nle (a := (0 : Int32)) (b := gi σ 74 28) a), l1, fb_e]
    exact ⟨r, rfl, by rw [b]; exact l2⟩
theorem mst {x y : Int32} {a b : Int} {σ : Sg} (h : x.toInt = a) (g : y.toInt = b) : ∃ r, F_X12_most x y σ = (r, σ) ∧ r.toInt = (if a ≤ b then b else a) := by
  unfold F_X12_most
  by_cases q : a ≤ b
  · rw [if_pos (i_le (by omega)), if_pos q]; exact ⟨_, rfl, g⟩
  · rw [if_neg (i_nle (by omega)), if_neg q]; exact ⟨_, rfl, h⟩
theorem lst {x y : Int32} {a b : Int} {σ : Sg} (h : x.toInt = a) (g : y.toInt = b) : ∃ r, F_X12_least x y σ = (r, σ) ∧ r.toInt = mnI a b := by
  unfold F_X12_least mnI
  by_cases q : b ≤ a
  · rw [if_pos (i_le (by omega))]
    refine ⟨_, rfl, ?_⟩
    split <;> omega
  · rw [if_neg (i_nle (by omega)), if_neg (by omega)]; exact ⟨_, rfl, h⟩
theorem factM {n p : Nat} {K : Int} {S : Stc} {D : Dyn} {σ : Sg} {mm : Int32} (sb : SBd n S) (db : DBd n K D) (hs : MT n S σ) (hd : MDy n D σ) (hp : p < S_r S) (hm : mm.toInt = (S_ln S p : Int)) (h30 : (gi σ 74 30).toInt = (p : Int)) : FCM (aLt S D p) mm σ := by
  intro τ f x g hx hg
  obtain ⟨m, em⟩ : ∃ m, m = S_ln S p := ⟨_, rfl⟩
  have hmn : m < n := by rw [em]; exact sb.2.2.1 p hp
  rw [← em] at hm
  have ec := cl_eq (x := mm) (by omega)
  have ek : mm.toNatClampNeg = m := by omega
  obtain ⟨u1, u2, u3, u4⟩ := db.2 m hmn
  have um := db.1
  obtain ⟨d1, d2, d3, d4, d5⟩ := hd
  have a3 := d3 m hmn
  have a4 := d4 m hmn
  unfold F_X12_factOf aLt
  rw [ek, ← em, FXp_i f (by decide +kernel), FXp_i f (by decide +kernel), FXp_i f (by decide +kernel), FXp_i f (by decide +kernel), FXp_i f (by decide +kernel)]
  rcases (show g = 0 ∨ g = 1 ∨ g = 2 ∨ g = 3 ∨ g = 4 ∨ g = 5 by omega) with rfl | rfl | rfl | rfl | rfl | rfl
  · rw [if_pos (by omega)]; exact ⟨_, rfl, hm⟩
  · rw [if_neg (by omega), if_pos (by omega)]; exact ⟨_, rfl, hs.2.2.1 m hmn⟩
  · rw [if_neg (by omega), if_neg (by omega), if_pos (by omega)]; exact ⟨_, rfl, h30⟩
  · rw [if_neg (by omega), if_neg (by omega), if_neg (by omega), if_pos (by omega)]; exact ⟨_, rfl, a3⟩
  · rw [if_neg (by omega), if_neg (by omega), if_neg (by omega), if_neg (by omega), if_pos (by omega)]; exact ⟨_, rfl, by rw [i_div (k := 10) (by omega) (by decide +kernel) rfl, a4]; rfl⟩
  · rw [if_neg (by omega), if_neg (by omega), if_neg (by omega), if_neg (by omega), if_neg (by omega)]; exact ⟨_, rfl, by rw [i_rem (k := 10) (by omega) (by decide +kernel) rfl, d1]; rfl⟩
theorem pacM {n p : Nat} {K : Int} {S : Stc} {D : Dyn} {σ : Sg} {x : Int32} (sb : SBd n S) (db : DBd n K D) (hs : MT n S σ) (hd : MDy n D σ) (hx : x.toInt = (p : Int)) (hp : p < S_r S) :
    Rt (F_X12_paceAt x σ) (fun r σ' => r.toInt = aPc S D p ∧ FXa σ σ') := by
  have ex := cl_eq (x := x) (by omega)
  have ep : x.toNatClampNeg = p := by omega
  have l := hs.2.1 p hp
  unfold F_X12_paceAt
  refine Rt_fl (fun σ1 e1 => ?_)
  have f1 : FXa σ σ1 := by rw [e1]; exact FX_si FX_rf (Or.inr ⟨rfl, rfl⟩)
  have hs1 := MT_q (FXa_q (n := 0) f1) hs
  have hd1 := MDy_a f1 hd
  have h30 : (gi σ1 74 30).toInt = (p : Int) := by rw [e1, gi_si_eq]; exact hx
  have fc : FCM (aLt S D p) (gi σ1 110 p) σ1 := factM sb db hs1 hd1 hp (hs1.2.1 p hp) h30
  obtain ⟨-, -, -, -, -, -, -, pw, cl10, tk⟩ := sb
  obtain ⟨r1, r2, b1, b2, b3, b4, b5, b6⟩ := MH_beg hs1.2.2.2.2.2.1 cl10 tk
  refine Rt_fe b1 ?_
  obtain ⟨r, σ', j1, j2, j3⟩ := paceM (L := aLt S D p) (x1 := x) (mm := gi σ1 110 p) (B := bgn σ1) pw cl10 tk (S_cl S) [] 90 (6 : Int32) r1 6 σ1 rfl hs1.2.2.2.2.2.1 rfl (by rw [ep]) fc rfl (by decide +kernel) (by rw [b3]; show _ = (bgn σ1 : Int) + ((0 : Nat) : Int); omega) (by omega)
  rw [j1]
  exact Rt_p ⟨j2, FX_tr f1 j3 (fun _ h => h) (fun _ _ h => h.elim)⟩
theorem prsM {n p : Nat} {K : Int} {S : Stc} {D : Dyn} {σ : Sg} {x : Int32} (sb : SBd n S) (db : DBd n K D) (hs : MT n S σ) (hd : MDy n D σ) (hx : x.toInt = (p : Int)) (hp : p < S_r S) : F_X12_isPressed x σ = (if aPr S D p = true then 1 else 0, σ) := by
  obtain ⟨g, hg, gt⟩ := gapM sb hs
  have ex := cl_eq (x := x) (by omega)
  have ep : x.toNatClampNeg = p := by omega
  obtain ⟨n6, rn, lnb, -, -, gb, -⟩ := sb
  obtain ⟨s2, s3, -⟩ := hs
  obtain ⟨d1, d2, -⟩ := hd
  have x1 : (x + (1 : Int32)).toInt = x.toInt + 1 := i_add (y := (1 : Int32)) (by show (_ : Int) ≤ x.toInt + 1; omega) (by show x.toInt + 1 ≤ (_ : Int); omega)
  have ex1 := cl_eq (x := x + (1 : Int32)) (by omega)
  unfold F_X12_isPressed
  by_cases q : p + 1 < S_r S
  · have l0 := s3 p hp
    have l1 := s3 (p + 1) q
    have m0 := lnb p hp
    have m1 := lnb (p + 1) q
    have e0 : (gi σ 110 p).toNatClampNeg = S_ln S p := by have := cl_eq (x := gi σ 110 p) (by omega); omega
    have e1 : (gi σ 110 (p + 1)).toNatClampNeg = S_ln S (p + 1) := by have := cl_eq (x := gi σ 110 (p + 1)) (by omega); omega
    have a0 := d2 _ m0
    have a1 := d2 _ m1
    have b0 := (db.2 _ m0).1
    have b1 := (db.2 _ m1).1
    rw [if_neg (i_nle (by omega)), hg, fb_e, ep, show (x + (1 : Int32)).toNatClampNeg = p + 1 from by omega, e0, e1]
    have g3 : (g + (3 : Int32)).toInt = g.toInt + 3 := i_add (y := (3 : Int32)) (by show (_ : Int) ≤ g.toInt + 3; omega) (by show g.toInt + 3 ≤ (_ : Int); omega)
    have df : (gi σ 105 (S_ln S p) - gi σ 105 (S_ln S (p + 1))).toInt = D_at D (S_ln S p) - D_at D (S_ln S (p + 1)) := by rw [i_sub (by omega) (by omega), a0, a1]
    unfold aPr
    by_cases q2 : D_at D (S_ln S p) - D_at D (S_ln S (p + 1)) < S_gp S + 3
    · rw [if_neg (i_nle (by omega)), decide_eq_true (show _ ∧ _ from ⟨q, q2⟩), if_pos rfl]
    · rw [if_pos (i_le (by omega)), decide_eq_false (fun h => q2 h.2), if_neg (by decide +kernel)]
  · unfold aPr
    rw [if_pos (i_le (by omega)), decide_eq_false (fun h => q h.1), if_neg (by decide +kernel)]
theorem pos0_e {x : Int} (h : 0 ≤ x) : pos0 x = x := by unfold pos0; split <;> omega
set_option maxHeartbeats 4000000 in
theorem strM {n p m : Nat} {K : Int} {S : Stc} {D : Dyn} {σ : Sg} {r x y : Int32} (sb : SBd n S) (db : DBd n K D) (hs : MT n S σ) (hd : MDy n D σ) (hx : x.toInt = (p : Int)) (hp : p < S_r S) (em : m = S_ln S p) (hy : y.toInt = (m : Int)) (hr : r.toInt = aPc S D p) : ∃ q, F_X12_strideOf x y r σ = (q, σ) ∧ pos0 q.toInt = aRw S D p := by
  have pb := aPc_b (D := D) (p := p) sb
  have plb := aPl_b sb db hp
  have hab := aHa_b sb db hp
  have hm : m < n := by rw [em]; exact sb.2.2.1 p hp
  have n6 := sb.1
  obtain ⟨u1, u2, u3, u4⟩ := db.2 m hm
  have um := db.1
  obtain ⟨kb, vb⟩ := sb.2.2.2.1 m hm
  have t3 := hd.2.2.1 m hm
  have t4 := hd.2.2.2.1 m hm
  have tk := hs.2.2.1 m hm
  have tv := hs.2.2.2.1 m hm
  have ec := cl_eq (x := y) (by omega)
  have ek : y.toNatClampNeg = m := by omega
  have dv : (gi σ 107 m / (20 : Int32)).toInt = D_ti D m / 20 := by rw [i_div (k := 20) (by omega) (by decide +kernel) rfl, t4]
  obtain ⟨q4, h4, v4⟩ := most0 (σ := σ) (show (r - gi σ 107 m / (20 : Int32)).toInt = aPc S D p - D_ti D m / 20 from by rw [i_sub (by omega) (by omega), hr, dv])
  replace v4 : q4.toInt = aPl S D p := by rw [v4, em]; rfl
  have X3 : ∃ q, F_X12_hasty y q4 σ = (q, σ) ∧ q.toInt = aHa S D p := by
    unfold F_X12_hasty aHa
    rw [ek, ← em]
    by_cases q : D_ed D m ≤ 5
    · rw [if_pos (i_le (show _ ≤ (5 : Int) by omega)), if_pos q]
      exact ⟨_, rfl, v4⟩
    · rw [if_neg (i_nle (show (5 : Int) < _ by omega)), if_neg q]
      exact ⟨_, rfl, by rw [i_add (by omega) (by omega), v4, tv]⟩
  unfold F_X12_strideOf
  rw [ek, h4, fb_e, tk]
  unfold aRw
  rw [← em]
  by_cases k1 : S_kn S m = 1
  · rw [if_pos k1, if_pos k1]; exact ⟨_, rfl, by rw [hr]; exact pos0_e pb.1⟩
  rw [if_neg k1, if_neg k1]
  by_cases k2 : S_kn S m = 2
  · rw [if_pos k2, if_pos k2]
    obtain ⟨q, h, v⟩ := X3
    rw [h, fb_e]
    exact ⟨_, rfl, by rw [v]; exact pos0_e hab.1⟩
  rw [if_neg k2, if_neg k2]
  by_cases k3 : S_kn S m = 3
  · rw [if_pos k3, if_pos k3]
    exact ⟨_, rfl, by rw [i_div (k := 2) (by omega) (by decide +kernel) rfl, v4]; exact pos0_e (by omega)⟩
  rw [if_neg k3, if_neg k3]
  by_cases k4 : S_kn S m = 4
  · rw [if_pos k4, if_pos k4]
    have d3 : (gi σ 104 m / (3 : Int32)).toInt = S_vv S m / 3 := by rw [i_div (k := 3) (by omega) (by decide +kernel) rfl, tv]
    exact ⟨_, rfl, by rw [i_sub (by omega) (by omega), hr, d3]⟩
  rw [if_neg k4, if_neg k4]
  by_cases k5 : S_kn S m = 5
  · rw [if_pos k5, if_pos k5]
    obtain ⟨q3, h3, v3⟩ := X3
    rw [h3, fb_e, prsM sb db hs hd hx hp, fb_e]
    by_cases q : aPr S D p = true
    · rw [if_pos q, if_pos q, if_neg (show ¬ (1 : Int32) = 0 by decide +kernel)]
      exact ⟨_, rfl, by rw [i_add (y := (2 : Int32)) (by show (_ : Int) ≤ q3.toInt + 2; omega) (by show q3.toInt + 2 ≤ (_ : Int); omega), v3]; exact pos0_e (show 0 ≤ _ + (2 : Int) by omega)⟩
    · rw [if_neg q, if_neg q, if_pos rfl]
      exact ⟨_, rfl, by rw [i_add (y := (0 : Int32)) (by show (_ : Int) ≤ q3.toInt + 0; omega) (by show q3.toInt + 0 ≤ (_ : Int); omega), v3]; show pos0 (_ + (0 : Int)) = _; rw [Int.add_zero]; exact pos0_e hab.1⟩
  rw [if_neg k5, if_neg k5]
  by_cases k6 : S_kn S m = 6
  · rw [if_pos k6, if_pos k6]
    have m9 := hd.1
    have md : (gi σ 74 1 - gi σ 74 1 / (4 : Int32) * (4 : Int32)).toInt = D_m D % 4 := by rw [i_rem (k := 4) (by omega) (by decide +kernel) rfl, m9]
    have m4 : ((4 : Int32) * y).toInt = 4 * y.toInt := i_mull rfl (by omega) (by omega)
    have ad : (((4 : Int32) * y) + (gi σ 74 1 - gi σ 74 1 / (4 : Int32) * (4 : Int32))).toInt = 4 * (m : Int) + D_m D % 4 := by rw [i_add (by omega) (by omega), m4, md, hy]
    have ec2 := cl_eq (x := ((4 : Int32) * y) + (gi σ 74 1 - gi σ 74 1 / (4 : Int32) * (4 : Int32))) (by omega)
    have tl := hs.2.2.2.2.1 (4 * m + (D_m D % 4).toNat) (by omega)
    have tb := sb.2.2.2.2.1 (4 * m + (D_m D % 4).toNat) (by omega)
    have hf : (q4 / (2 : Int32)).toInt = aPl S D p / 2 := by rw [i_div (k := 2) (by omega) (by decide +kernel) rfl, v4]
    rw [show (((4 : Int32) * y) + (gi σ 74 1 - gi σ 74 1 / (4 : Int32) * (4 : Int32))).toNatClampNeg = 4 * m + (D_m D % 4).toNat from by omega]
    exact ⟨_, rfl, by rw [i_add (by omega) (by omega), hf, tl]; exact pos0_e (by omega)⟩
  rw [if_neg k6, if_neg k6]
  exact ⟨_, rfl, by rw [v4]; exact pos0_e plb.1⟩
theorem strAtM {n p : Nat} {K : Int} {S : Stc} {D : Dyn} {σ : Sg} {x : Int32} (sb : SBd n S) (db : DBd n K D) (hs : MT n S σ) (hd : MDy n D σ) (hx : x.toInt = (p : Int)) (hp : p < S_r S) :
    Rt (F_X12_strideAt x σ) (fun r σ' => r.toInt = aSt S D p ∧ FXa σ σ') := by
  have ex := cl_eq (x := x) (by omega)
  have ep : x.toNatClampNeg = p := by omega
  obtain ⟨m, em⟩ : ∃ m, m = S_ln S p := ⟨_, rfl⟩
  have hm : m < n := by rw [em]; exact sb.2.2.1 p hp
  have l := hs.2.1 p hp
  have rb := aRw_b sb db hp
  unfold F_X12_strideAt
  rw [ep]
  refine Rt_fl (fun v2 e2 => ?_)
  have v2i : v2.toInt = (m : Int) := by rw [e2, l, em]
  have v2n : v2.toNatClampNeg = m := by have := cl_eq (x := v2) (by omega); omega
  refine Rt_fb (pacM sb db hs hd hx hp) (fun r4 σ3 h => ?_)
  obtain ⟨h1, f3⟩ := h
  have hs3 := MT_q (FXa_q (n := 0) f3) hs
  have hd3 := MDy_a f3 hd
  obtain ⟨q, j1, j2⟩ := strM sb db hs3 hd3 hx hp em v2i h1
  refine Rt_fe j1 ?_
  obtain ⟨q8, i1, i2⟩ := most0 (σ := σ3) (x := q) rfl
  refine Rt_fe i1 ?_
  rw [v2n]
  have e4 := hd3.2.2.1 m hm
  unfold aSt
  rw [← em]
  by_cases c : D_ed D m = 0
  · refine Rt_t (i_eq (by rw [e4, c]; rfl)) (Rt_p ⟨?_, f3⟩)
    rw [if_pos c, i_div (k := 2) (by omega) (by decide +kernel) rfl, i2, j2]
  · refine Rt_f (fun z => c (by rw [← e4, z]; rfl)) (Rt_p ⟨?_, f3⟩)
    rw [if_neg c, i2, j2]
noncomputable def MS (n : Nat) (S : Stc) (σ : Sg) : Prop := (gi σ 74 0).toInt = (n : Int) ∧ MT n S σ
theorem MS_eq {n : Nat} {S : Stc} {σ σ' : Sg} (e : ∀ id k, (id = 74 ∧ (k = 0 ∨ k = 2 ∨ k = 12 ∨ k = 28)) ∨ id = 103 ∨ id = 104 ∨ id = 109 ∨ id = 110 ∨ (117 ≤ id ∧ id ≤ 122) → gi σ' id k = gi σ id k) (h : MS n S σ) : MS n S σ' := ⟨by rw [e 74 0 (by omega)]; exact h.1, MT_eq (fun id k a => e id k (by omega)) h.2⟩
theorem MS_q {n n' : Nat} {S : Stc} {σ σ1 : Sg} (f : FXq n' σ σ1) (h : MS n S σ) : MS n S σ1 := MS_eq (fun id k a => FXq_i f (by omega)) h
/-! a minute in the model: whoever is at a place goes on -/
theorem lineM {n p : Nat} {S : Stc} {σ : Sg} (hs : MT n S σ) (hp : p < S_r S) : (gi σ 110 p).toNatClampNeg = S_ln S p := by
  have l := hs.2.1 p hp
  have := cl_eq (x := gi σ 110 p) (by omega)
  omega
theorem FXd_si {n : Nat} {σ σ1 : Sg} {a k : Nat} {v : Int32} (f : FXd n σ σ1) (h : 105 ≤ a ∧ a ≤ 108 ∧ k < n) : FXd n σ (si σ1 a k v) := FX_si f (Or.inr h)
theorem FXd_rf {n : Nat} {σ : Sg} : FXd n σ σ := FX_rf
set_option maxHeartbeats 4000000 in
theorem go82M {n p m : Nat} {K s : Int} {S : Stc} {D : Dyn} {σ : Sg} {x1 x2 z : Int32} (sb : SBd n S) (db : DBd n K D) (hs : MT n S σ) (hd : MDy n D σ) (hx : x1.toNatClampNeg = p) (hp : p < S_r S) (hst : (gi σ 131 p).toInt = s) (sb2 : 0 ≤ s ∧ s ≤ 1007) (em : m = S_ln S p) (h2 : x2.toNatClampNeg = m)
    (hz : z.toInt = (if p = 0 then 9999 else mnI 9999 (D_at D (S_ln S (p - 1)) - S_gp S))) (c : ¬ 0 < D_st D m) :
    Rt (LF_X12_goes 9 0 x1 x2 z 0 σ) (fun r σ' => r = (if aHd S s D p = true then 1 else 0) ∧ MDy n (aGo S s D p) σ' ∧ FXd n σ σ') := by
  have hm : m < n := by rw [em]; exact sb.2.2.1 p hp
  obtain ⟨u1, u2, u3, u4⟩ := db.2 m hm
  obtain ⟨d1, d2, d3, d4, d5⟩ := hd
  have a2 := d2 m hm
  have a3 := d3 m hm
  have a4 := d4 m hm
  have a5 := d5 m hm
  have tb := sb.2.2.2.2.2.2.1
  have gb := sb.2.2.2.2.2.1
  have fb9 := aFar_b (s := s) sb db hp
  rw [← em] at fb9
  show Rt (LB_X12_goes_82 (LF_X12_goes 8) x1 x2 z σ) _
  unfold LB_X12_goes_82
  rw [hx, h2]
  have sm : (gi σ 105 m + gi σ 131 p).toInt = D_at D m + s := by rw [i_add (by omega) (by omega), a2, hst]
  obtain ⟨r5, l1, l2⟩ := lst (σ := σ) hz sm
  refine Rt_fe l1 ?_
  obtain ⟨r7, n1, n2⟩ := mst (σ := σ) a2 l2
  refine Rt_fe n1 ?_
  have far : r7.toInt = D_at D m + aFar S s D p := by
    rw [n2]
    unfold aFar pos0
    rw [← em]
    by_cases q : p = 0
    · rw [if_pos q, if_pos q]
      unfold mnI
      repeat' split
      all_goals omega
    · rw [if_neg q, if_neg q]
      unfold mnI
      repeat' split
      all_goals omega
  refine Rt_fl (fun v9 e9 => ?_)
  have v9i : v9.toInt = aFar S s D p := by rw [e9, i_sub (by omega) (by omega), far, a2]; omega
  have fin : ∀ σ' : Sg, gi σ' 131 p = gi σ 131 p → MDy n (aGo S s D p) σ' → FXd n σ σ' → Rt (LF_X12_goes 8 1 x1 0 0 v9 σ') (fun r σ' => r = (if aHd S s D p = true then 1 else 0) ∧ MDy n (aGo S s D p) σ' ∧ FXd n σ σ') := by
    intro σ' h1 h3 h4
    show Rt (LB_X12_goes_203 (LF_X12_goes 7) x1 v9 σ') _
    unfold LB_X12_goes_203 aHd
    rw [hx, h1, ← em, if_neg c]
    by_cases q : aFar S s D p < s
    · exact Rt_f (i_nle (by omega)) (Rt_p ⟨by rw [decide_eq_true q, if_pos rfl], h3, h4⟩)
    · exact Rt_t (i_le (by omega)) (Rt_p ⟨by rw [decide_eq_false q, if_neg (by decide +kernel)], h3, h4⟩)
  refine Rt_fl (fun σb eb => ?_)
  have fb : FXd n σ σb := by rw [eb]; exact FXd_si FXd_rf (by omega)
  have g107 : gi σb 107 m = gi σ 107 m := by rw [eb, gi_si_ne (Or.inl (by decide +kernel))]
  have g106 : gi σb 106 m = gi σ 106 m := by rw [eb, gi_si_ne (Or.inl (by decide +kernel))]
  by_cases w : 0 < aFar S s D p
  · refine Rt_f (i_nle (show (0 : Int) < _ by omega)) ?_
    rw [g106]
    obtain ⟨r20, i1, i2⟩ := most0 (σ := σb) (show (gi σ 106 m - (1 : Int32)).toInt = D_ed D m - 1 from by rw [i_sub (y := (1 : Int32)) (by show (_ : Int) ≤ _ - 1; omega) (by show _ - 1 ≤ (_ : Int); omega), a3]; rfl)
    refine Rt_fe i1 ?_
    refine Rt_fl (fun σd ed => ?_)
    have fd : FXd n σ σd := by rw [ed]; exact FXd_si fb (by omega)
    have hsd : MT n S σd := MT_q (FXd_q fd) hs
    obtain ⟨r25, j1, j2⟩ := lastM (w := 3) (d := 1) (x1 := (3 : Int32)) (x2 := (1 : Int32)) sb.2.2.2.2.2.2.2.2.1 sb.2.2.2.2.2.2.2.2.2 rfl rfl hsd.2.2.2.2.2.1
    refine Rt_fe j1 ?_
    rw [← hs.2.2.2.2.2.2.1] at j2
    have g7d : gi σd 107 m = gi σ 107 m := by rw [ed, gi_si_ne (Or.inl (by decide +kernel)), g107]
    rw [g7d]
    obtain ⟨r27, k1, k2⟩ := lst (x := (99 : Int32)) (a := 99) (σ := σd) rfl (show (gi σ 107 m + r25).toInt = D_ti D m + S_tr S from by rw [i_add (by omega) (by omega), a4, j2])
    refine Rt_fe k1 ?_
    refine Rt_fl (fun σe ee => ?_)
    have fe : FXd n σ σe := by rw [ee]; exact FXd_si fd (by omega)
    refine fin σe (FXd_i fe (by omega)) ?_ fe
    unfold aGo
    rw [← em, if_neg c, if_pos w]
    refine ⟨?_, ?_, ?_, ?_, ?_⟩
    · rw [FXd_i fe (by omega)]; exact d1
    · refine row_u d2 ?_ (fun j hj => ?_)
      · rw [ee, gi_si_ne (Or.inl (by decide +kernel)), ed, gi_si_ne (Or.inl (by decide +kernel)), eb, gi_si_eq]; exact far
      · rw [ee, gi_si_ne (Or.inl (by decide +kernel)), ed, gi_si_ne (Or.inl (by decide +kernel)), eb, gi_si_ne (Or.inr hj)]
    · refine row_u d3 ?_ (fun j hj => ?_)
      · rw [ee, gi_si_ne (Or.inl (by decide +kernel)), ed, gi_si_eq]; exact i2
      · rw [ee, gi_si_ne (Or.inl (by decide +kernel)), ed, gi_si_ne (Or.inr hj), eb, gi_si_ne (Or.inl (by decide +kernel))]
    · refine row_u d4 ?_ (fun j hj => ?_)
      · rw [ee, gi_si_eq]; exact k2
      · rw [ee, gi_si_ne (Or.inr hj), ed, gi_si_ne (Or.inl (by decide +kernel)), eb, gi_si_ne (Or.inl (by decide +kernel))]
    · exact row_k d5 (fun j => by rw [ee, gi_si_ne (Or.inl (by decide +kernel)), ed, gi_si_ne (Or.inl (by decide +kernel)), eb, gi_si_ne (Or.inl (by decide +kernel))])
  · refine Rt_t (i_le (show _ ≤ (0 : Int) by omega)) ?_
    rw [g107]
    obtain ⟨r15, i1, i2⟩ := most0 (σ := σb) (show (gi σ 107 m - (2 : Int32)).toInt = D_ti D m - 2 from by rw [i_sub (y := (2 : Int32)) (by show (_ : Int) ≤ _ - 2; omega) (by show _ - 2 ≤ (_ : Int); omega), a4]; rfl)
    refine Rt_fe i1 ?_
    refine Rt_fl (fun σd ed => ?_)
    have fd : FXd n σ σd := by rw [ed]; exact FXd_si fb (by omega)
    refine fin σd (FXd_i fd (by omega)) ?_ fd
    unfold aGo
    rw [← em, if_neg c, if_neg w]
    refine ⟨?_, ?_, ?_, ?_, ?_⟩
    · rw [FXd_i fd (by omega)]; exact d1
    · refine row_s d2 (m := m) ?_ (fun j hj => ?_)
      · rw [ed, gi_si_ne (Or.inl (by decide +kernel)), eb, gi_si_eq, far, a2]; omega
      · rw [ed, gi_si_ne (Or.inl (by decide +kernel)), eb, gi_si_ne (Or.inr hj)]
    · exact row_k d3 (fun j => by rw [ed, gi_si_ne (Or.inl (by decide +kernel)), eb, gi_si_ne (Or.inl (by decide +kernel))])
    · refine row_u d4 ?_ (fun j hj => ?_)
      · rw [ed, gi_si_eq]; exact i2
      · rw [ed, gi_si_ne (Or.inr hj), eb, gi_si_ne (Or.inl (by decide +kernel))]
    · exact row_k d5 (fun j => by rw [ed, gi_si_ne (Or.inl (by decide +kernel)), eb, gi_si_ne (Or.inl (by decide +kernel))])
set_option maxHeartbeats 4000000 in
theorem goM {n p : Nat} {K s : Int} {S : Stc} {D : Dyn} {σ : Sg} {x : Int32} (sb : SBd n S) (db : DBd n K D) (hs : MT n S σ) (hd : MDy n D σ) (hx : x.toInt = (p : Int)) (hp : p < S_r S) (hst : (gi σ 131 p).toInt = s) (sb2 : 0 ≤ s ∧ s ≤ 1007) :
    Rt (F_X12_goes x σ) (fun r σ' => r = (if aHd S s D p = true then 1 else 0) ∧ MDy n (aGo S s D p) σ' ∧ FXd n σ σ') := by
  have ex := cl_eq (x := x) (by omega)
  have ep : x.toNatClampNeg = p := by omega
  obtain ⟨m, em⟩ : ∃ m, m = S_ln S p := ⟨_, rfl⟩
  have hm : m < n := by rw [em]; exact sb.2.2.1 p hp
  have ln := lineM hs hp
  obtain ⟨u1, u2, u3, u4⟩ := db.2 m hm
  have hd' := hd
  obtain ⟨d1, d2, d3, d4, d5⟩ := hd'
  have a4 := d4 m hm
  have a5 := d5 m hm
  unfold F_X12_goes
  rw [ep]
  refine Rt_fl (fun v2 e2 => ?_)
  have v2n : v2.toNatClampNeg = m := by rw [e2, ln, em]
  rw [v2n]
  by_cases c : 0 < D_st D m
  · refine Rt_f (i_nle (show (0 : Int) < _ by omega)) ?_
    refine Rt_fl (fun σa ea => ?_)
    have fa : FXd n σ σa := by rw [ea]; exact FXd_si FXd_rf (by omega)
    have g107 : gi σa 107 m = gi σ 107 m := by rw [ea, gi_si_ne (Or.inl (by decide +kernel))]
    rw [g107]
    obtain ⟨r17, i1, i2⟩ := most0 (σ := σa) (show (gi σ 107 m - (2 : Int32)).toInt = D_ti D m - 2 from by rw [i_sub (y := (2 : Int32)) (by show (_ : Int) ≤ _ - 2; omega) (by show _ - 2 ≤ (_ : Int); omega), a4]; rfl)
    refine Rt_fe i1 ?_
    refine Rt_fl (fun σd ed => ?_)
    have fd : FXd n σ σd := by rw [ed]; exact FXd_si fa (by omega)
    refine Rt_p ⟨?_, ?_, fd⟩
    · unfold aHd
      rw [← em, if_pos c, if_neg (by decide +kernel)]
    · unfold aGo
      rw [← em, if_pos c]
      refine ⟨?_, ?_, ?_, ?_, ?_⟩
      · rw [FXd_i fd (by omega)]; exact d1
      · exact row_k d2 (fun j => by rw [ed, gi_si_ne (Or.inl (by decide +kernel)), ea, gi_si_ne (Or.inl (by decide +kernel))])
      · exact row_k d3 (fun j => by rw [ed, gi_si_ne (Or.inl (by decide +kernel)), ea, gi_si_ne (Or.inl (by decide +kernel))])
      · refine row_u d4 ?_ (fun j hj => ?_)
        · rw [ed, gi_si_eq]; exact i2
        · rw [ed, gi_si_ne (Or.inr hj), ea, gi_si_ne (Or.inl (by decide +kernel))]
      · refine row_u d5 ?_ (fun j hj => ?_)
        · rw [ed, gi_si_ne (Or.inl (by decide +kernel)), ea, gi_si_eq, i_pred (by omega), a5]
        · rw [ed, gi_si_ne (Or.inl (by decide +kernel)), ea, gi_si_ne (Or.inr hj)]
  · refine Rt_t (i_le (show _ ≤ (0 : Int) by omega)) ?_
    by_cases q : p = 0
    · refine Rt_t (i_eq (show _ = (0 : Int) by omega)) ?_
      exact go82M sb db hs hd ep hp hst sb2 em v2n (by rw [if_pos q]; rfl) c
    · refine Rt_f (i_ne (show _ ≠ (0 : Int) by omega)) ?_
      obtain ⟨g, hg, gt⟩ := gapM sb hs
      have gb := sb.2.2.2.2.2.1
      have hp1 : p - 1 < S_r S := by omega
      have x1 : (x - (1 : Int32)).toInt = x.toInt - 1 := i_pred (by omega)
      have ex1 := cl_eq (x := x - (1 : Int32)) (by omega)
      have m1 := sb.2.2.1 _ hp1
      have a1 := d2 _ m1
      have b1 := (db.2 _ m1).1
      refine Rt_fe hg ?_
      rw [show (x - (1 : Int32)).toNatClampNeg = p - 1 from by omega, lineM hs hp1]
      obtain ⟨r11, j1, j2⟩ := lst (x := (9999 : Int32)) (a := 9999) (σ := σ) rfl (show (gi σ 105 (S_ln S (p - 1)) - g).toInt = D_at D (S_ln S (p - 1)) - S_gp S from by rw [i_sub (by omega) (by omega), a1, gt])
      refine Rt_fe j1 ?_
      exact go82M sb db hs hd ep hp hst sb2 em v2n (by rw [if_neg q]; exact j2) c
/-- how often one was held -/
noncomputable def hc : List Nat → Nat → Int
  | [], _ => 0
  | a :: l, m => (if a = m then 1 else 0) + hc l m
theorem hc_ap {m a : Nat} : ∀ l : List Nat, hc (l ++ [a]) m = hc l m + (if a = m then 1 else 0) := by
  intro l
  induction l with
  | nil => show (if a = m then 1 else 0) + 0 = (0 : Int) + (if a = m then 1 else 0); split <;> rfl
  | cons b l ih => show (if b = m then 1 else 0) + hc (l ++ [a]) m = (if b = m then 1 else 0) + hc l m + _; rw [ih]; omega
theorem hc_b {m : Nat} : ∀ l : List Nat, 0 ≤ hc l m ∧ hc l m ≤ (l.length : Int) := by
  intro l
  induction l with
  | nil => exact ⟨Int.le_refl _, Int.le_refl _⟩
  | cons b l ih => rw [List.length_cons]; show 0 ≤ (if b = m then 1 else 0) + hc l m ∧ (if b = m then 1 else 0) + hc l m ≤ _; split <;> omega
noncomputable def HTm (n : Nat) (B : Nat → Int) (l : List Nat) (σ : Sg) : Prop := ∀ m, m < n → (0 ≤ B m ∧ B m ≤ 100000) ∧ (gi σ 132 m).toInt = B m + hc l m
theorem gosM {n : Nat} {S : Stc} {st : Nat → Int} (sb : SBd n S) (hst : ∀ q, q < S_r S → 0 ≤ st q ∧ st q ≤ 1007) : ∀ (k p : Nat) (l : List Nat) (D : Dyn) (K : Int) (σ : Sg) (N : Nat) (x1 x2 : Int32), p + k = S_r S → l.length ≤ p → k + 1 ≤ N → K ≤ 200000 → DBd n K D → MT n S σ → MDy n D σ → x2.toInt = (p : Int) → x1 = hset l → (∀ q, q < S_r S → (gi σ 131 q).toInt = st q) →
    Rt (LF_X12_goMinute N 1 x1 x2 σ) (fun r σ' => r = hset (aGos S st k p l D).1 ∧ MDy n (aGos S st k p l D).2 σ' ∧ FXq n σ σ' ∧ ∀ B, HTm n B l σ → HTm n B (aGos S st k p l D).1 σ') := by
  intro k
  induction k with
  | zero =>
    intro p l D K σ N x1 x2 hp hl hN hK db hs hd hx h1 hq
    obtain ⟨N, rfl⟩ : ∃ j, N = j + 1 := ⟨N - 1, by omega⟩
    have h3 := hs.1
    obtain ⟨d1, d2, d3, d4, d5⟩ := hd
    have dm := db.1
    show Rt (LB_X12_goMinute_31 (LF_X12_goMinute N) x1 x2 σ) _
    unfold LB_X12_goMinute_31
    refine Rt_t (i_le (by omega)) ?_
    refine Rt_fl (fun σ2 e2 => Rt_p ⟨h1, ⟨?_, ?_, ?_, ?_, ?_⟩, ?_, fun B hB m hm => ?_⟩)
    · rw [e2, gi_si_eq, i_add (y := (1 : Int32)) (by show (_ : Int) ≤ _ + 1; omega) (by show _ + 1 ≤ (_ : Int); omega), d1]; rfl
    · exact row_k d2 (fun j => by rw [e2, gi_si_ne (Or.inl (by decide +kernel))])
    · exact row_k d3 (fun j => by rw [e2, gi_si_ne (Or.inl (by decide +kernel))])
    · exact row_k d4 (fun j => by rw [e2, gi_si_ne (Or.inl (by decide +kernel))])
    · exact row_k d5 (fun j => by rw [e2, gi_si_ne (Or.inl (by decide +kernel))])
    · rw [e2]; exact FX_si FX_rf (Or.inr (Or.inl ⟨rfl, Or.inl rfl⟩))
    · rw [e2, gi_si_ne (Or.inl (by decide +kernel))]; exact hB m hm
  | succ k ih =>
    intro p l D K σ N x1 x2 hp hl hN hK db hs hd hx h1 hq
    obtain ⟨N, rfl⟩ : ∃ j, N = j + 1 := ⟨N - 1, by omega⟩
    have hp' : p < S_r S := by omega
    have n6 := sb.1
    have rn := sb.2.1
    have h3 := hs.1
    have ex := cl_eq (x := x2) (by omega)
    have ep : x2.toNatClampNeg = p := by omega
    have x3 : (x2 + (1 : Int32)).toInt = x2.toInt + 1 := i_add (y := (1 : Int32)) (by show (_ : Int) ≤ x2.toInt + 1; omega) (by show x2.toInt + 1 ≤ (_ : Int); omega)
    show Rt (LB_X12_goMinute_31 (LF_X12_goMinute N) x1 x2 σ) _
    unfold LB_X12_goMinute_31
    refine Rt_f (i_nle (by omega)) ?_
    refine Rt_fb (goM sb db hs hd hx hp' (hq p hp') (hst p hp')) (fun r4 σ3 h => ?_)
    obtain ⟨g1, g2, g3⟩ := h
    have hs3 := MT_q (FXd_q g3) hs
    have db3 := aGo_b (s := st p) sb db hp'
    show Rt _ (fun r σ' => r = hset (aGos S st k (p + 1) (if aHd S (st p) D p = true then l ++ [S_ln S p] else l) (aGo S (st p) D p)).1 ∧ MDy n (aGos S st k (p + 1) (if aHd S (st p) D p = true then l ++ [S_ln S p] else l) (aGo S (st p) D p)).2 σ' ∧ FXq n σ σ' ∧ ∀ B, HTm n B l σ → HTm n B (aGos S st k (p + 1) (if aHd S (st p) D p = true then l ++ [S_ln S p] else l) (aGo S (st p) D p)).1 σ')
    have e132 : ∀ m, gi σ3 132 m = gi σ 132 m := fun m => FXd_i g3 (by omega)
    by_cases a : aHd S (st p) D p = true
    · rw [if_pos a] at g1 ⊢
      refine Rt_f (by rw [g1]; decide) ?_
      have lI : gi σ3 110 p = nI (S_ln S p) := by
        have := lineM hs3 hp'
        have l9 := hs3.2.1 p hp'
        rw [← this]; exact nI_ofI (by omega)
      have lm : (nI (S_ln S p)).toNatClampNeg = S_ln S p := by rw [← lI]; exact lineM hs3 hp'
      rw [ep, lI, lm]
      refine Rt_fl (fun v7 e7 => ?_)
      refine Rt_fl (fun σ11 e11 => ?_)
      refine Rt_fl (fun v12 e12 => ?_)
      have f11 : FXq n σ σ11 := by rw [e11]; exact FX_si (FXd_q g3) (Or.inl (Or.inr (Or.inr rfl)))
      have f3 : FXq n σ3 σ11 := by rw [e11]; exact FX_si FX_rf (Or.inl (Or.inr (Or.inr rfl)))
      refine Rt_w (ih (p + 1) (l ++ [S_ln S p]) (aGo S (st p) D p) K σ11 N v7 v12 (by omega) (by rw [List.length_append]; show l.length + 1 ≤ p + 1; omega) (by omega) hK db3 (MT_q f3 hs3) (MDy_eq (fun id k h9 => by rw [e11, gi_si_ne (Or.inl (by omega))]) g2) (by rw [e12]; omega) (by rw [e7, hset_ap, h1]) (fun q hq' => by rw [e11, gi_si_ne (Or.inl (by decide +kernel)), FXd_i g3 (by omega)]; exact hq q hq')) (fun r σ' h => ⟨h.1, h.2.1, FXq_tr f11 h.2.2.1, fun B hB => h.2.2.2 B (fun m hm => ?_)⟩)
      obtain ⟨b1, b2⟩ := hB m hm
      have hb := hc_b (m := m) l
      refine ⟨b1, ?_⟩
      rw [hc_ap, e11]
      by_cases e : m = S_ln S p
      · subst e
        rw [gi_si_eq, e132, if_pos rfl, i_add (y := (1 : Int32)) (by show (_ : Int) ≤ _ + 1; omega) (by show _ + 1 ≤ (_ : Int); omega)]
        show _ + (1 : Int) = _
        omega
      · rw [gi_si_ne (Or.inr e), e132, if_neg (fun z => e z.symm)]; omega
    · rw [if_neg a] at g1 ⊢
      refine Rt_t g1 ?_
      refine Rt_fl (fun v13 e13 => ?_)
      refine Rt_w (ih (p + 1) l (aGo S (st p) D p) K σ3 N x1 v13 (by omega) (by omega) (by omega) hK db3 hs3 g2 (by rw [e13]; omega) h1 (fun q hq' => by rw [FXd_i g3 (by omega)]; exact hq q hq')) (fun r σ' h => ⟨h.1, h.2.1, FXq_tr (FXd_q g3) h.2.2.1, fun B hB => h.2.2.2 B (fun m hm => by rw [e132]; exact hB m hm)⟩)
theorem strsM {n : Nat} {K : Int} {S : Stc} {D : Dyn} (sb : SBd n S) (db : DBd n K D) (hK : K ≤ 200000) : ∀ (k p : Nat) (σ : Sg) (N : Nat) (x1 : Int32), p + k = S_r S → k + S_r S + 2 ≤ N → MT n S σ → MDy n D σ → x1.toInt = (p : Int) → (∀ q, q < p → (gi σ 131 q).toInt = aSt S D q) →
    Rt (LF_X12_goMinute N 0 x1 0 σ) (fun r σ' => r = hset (aMin S D).1 ∧ MDy n (aMin S D).2 σ' ∧ FXq n σ σ' ∧ ∀ B, HTm n B [] σ → HTm n B (aMin S D).1 σ') := by
  intro k
  induction k with
  | zero =>
    intro p σ N x1 hp hN hs hd hx hq
    obtain ⟨N, rfl⟩ : ∃ j, N = j + 1 := ⟨N - 1, by omega⟩
    have h3 := hs.1
    show Rt (LB_X12_goMinute_2 (LF_X12_goMinute N) x1 σ) _
    unfold LB_X12_goMinute_2
    refine Rt_t (i_le (by omega)) ?_
    exact gosM sb (fun q hq' => aSt_b sb db hq') (S_r S) 0 [] D K σ N (0 : Int32) (0 : Int32) (by omega) (Nat.le_refl _) (by omega) hK db hs hd rfl rfl (fun q hq' => hq q (by omega))
  | succ k ih =>
    intro p σ N x1 hp hN hs hd hx hq
    obtain ⟨N, rfl⟩ : ∃ j, N = j + 1 := ⟨N - 1, by omega⟩
    have h3 := hs.1
    have n6 := sb.1
    have rn := sb.2.1
    have hp' : p < S_r S := by omega
    have ex := cl_eq (x := x1) (by omega)
    have ep : x1.toNatClampNeg = p := by omega
    have x3 : (x1 + (1 : Int32)).toInt = x1.toInt + 1 := i_add (y := (1 : Int32)) (by show (_ : Int) ≤ x1.toInt + 1; omega) (by show x1.toInt + 1 ≤ (_ : Int); omega)
    show Rt (LB_X12_goMinute_2 (LF_X12_goMinute N) x1 σ) _
    unfold LB_X12_goMinute_2
    refine Rt_f (i_nle (by omega)) ?_
    refine Rt_fb (strAtM sb db hs hd hx hp') (fun r3 σ2 h => ?_)
    obtain ⟨h1, f2⟩ := h
    rw [ep]
    refine Rt_fl (fun σ5 e5 => ?_)
    have f5 : FXq n σ σ5 := by rw [e5]; exact FX_si (FXa_q f2) (Or.inl (Or.inr (Or.inl rfl)))
    refine Rt_fl (fun v6 e6 => ?_)
    refine Rt_w (ih (p + 1) σ5 N v6 (by omega) (by omega) (MT_q f5 hs) (MDy_eq (fun id k h9 => by rw [e5, gi_si_ne (Or.inl (by omega)), FXa_i f2 (by omega)]) hd) (by rw [e6]; omega) (fun q hq' => ?_)) (fun r σ' h => ⟨h.1, h.2.1, FXq_tr f5 h.2.2.1, fun B hB => h.2.2.2 B (fun m hm => by rw [e5, gi_si_ne (Or.inl (by decide +kernel)), FXa_i f2 (by omega)]; exact hB m hm)⟩)
    by_cases e : q = p
    · subst e; rw [e5, gi_si_eq]; exact h1
    · rw [e5, gi_si_ne (Or.inr e), FXa_i f2 (by omega)]; exact hq q (by omega)
theorem minM {n : Nat} {K : Int} {S : Stc} {D : Dyn} {σ : Sg} (sb : SBd n S) (db : DBd n K D) (hK : K ≤ 200000) (hs : MT n S σ) (hd : MDy n D σ) :
    Rt (F_X12_goMinute σ) (fun r σ' => r = hset (aMin S D).1 ∧ MDy n (aMin S D).2 σ' ∧ FXq n σ σ' ∧ ∀ B, HTm n B [] σ → HTm n B (aMin S D).1 σ') := by
  have n6 := sb.1
  have rn := sb.2.1
  unfold F_X12_goMinute
  exact strsM sb db hK (S_r S) 0 σ 900 (0 : Int32) (by omega) (by omega) hs hd rfl (fun q h => absurd h (Nat.not_lt_zero q))
/-! minutes, whetting, rests, how far all are: plain, and in the class -/
noncomputable def aMins (S : Stc) : Nat → Dyn → Dyn
  | 0, D => D
  | k + 1, D => aMins S k (aMin S D).2
noncomputable def aPas (u v : Int) (D : Dyn) : Dyn := (D_m D + u, D_at D, D_ed D, fun m => pos0 (D_ti D m - v), fun m => pos0 (D_st D m - u))
noncomputable def aWhe (D : Dyn) : Dyn := (D_m D + 1, D_at D, fun _ => 10, fun m => pos0 (D_ti D m - 1), fun m => pos0 (D_st D m - 1))
noncomputable def aAll (f : Nat → Int) : Nat → Int
  | 0 => 0
  | k + 1 => aAll f k + f k
noncomputable def aDn (lg : Int) (f : Nat → Int) : Nat → Nat → Bool
  | 0, _ => true
  | k + 1, p => if lg ≤ f p then aDn lg f k (p + 1) else false
noncomputable def aLg (cl : List Cls) : Int := ((if lastW 4 60 cl < 1 then 1 else lastW 4 60 cl : Nat) : Int)
theorem aMins_b {n : Nat} {S : Stc} (h : SBd n S) : ∀ (k : Nat) (D : Dyn) (K : Int), DBd n K D → DBd n (K + k) (aMins S k D) := by
  intro k
  induction k with
  | zero => intro D K d; rw [show K + ((0 : Nat) : Int) = K from by omega]; exact d
  | succ k ih =>
    intro D K d
    have := ih _ _ (aMin_b h d)
    rw [show K + ((k + 1 : Nat) : Int) = K + 1 + (k : Int) from by omega]
    exact this
theorem pos0_m {x y k : Int} (h : x ≤ k) (hx : 0 ≤ k) (hy : 0 ≤ y) : 0 ≤ pos0 (x - y) ∧ pos0 (x - y) ≤ k := pos0_b (by omega) hx
theorem aPas_b {n : Nat} {D : Dyn} {K u v : Int} (d : DBd n K D) (hu : 0 ≤ u) (hv : 0 ≤ v) : DBd n (K + u) (aPas u v D) := by
  obtain ⟨d1, d2, d3, d4, d5⟩ := DBd_i.mp d
  exact DBd_i.mpr ⟨by show 0 ≤ D_m D + u ∧ D_m D + u ≤ K + u; omega, d2, d3, fun m hm => pos0_m (d4 m hm).2 (by decide +kernel) hv, fun m hm => pos0_m (d5 m hm).2 (by decide +kernel) hu⟩
theorem aWhe_b {n : Nat} {D : Dyn} {K : Int} (d : DBd n K D) : DBd n (K + 1) (aWhe D) := by
  obtain ⟨d1, d2, d3, d4, d5⟩ := DBd_i.mp d
  exact DBd_i.mpr ⟨by show 0 ≤ D_m D + 1 ∧ D_m D + 1 ≤ K + 1; omega, d2, fun m hm => ⟨by show (0 : Int) ≤ 10; decide, by show (10 : Int) ≤ 10; decide⟩, fun m hm => pos0_m (d4 m hm).2 (by decide +kernel) (by decide +kernel), fun m hm => pos0_m (d5 m hm).2 (by decide +kernel) (by decide +kernel)⟩
theorem aAll_b {n : Nat} {f : Nat → Int} (h : ∀ m, m < n → 0 ≤ f m ∧ f m ≤ 9999) : ∀ k, k ≤ n → 0 ≤ aAll f k ∧ aAll f k ≤ 9999 * (k : Int) := by
  intro k
  induction k with
  | zero => intro _; exact ⟨Int.le_refl _, Int.le_refl _⟩
  | succ k ih =>
    intro hk
    have a := ih (by omega)
    have b := h k (by omega)
    show 0 ≤ aAll f k + f k ∧ aAll f k + f k ≤ _
    omega
theorem i_inc {x : Int32} (h : x.toInt ≤ 2147483646) : (x + (1 : Int32)).toInt = x.toInt + 1 := by
  have := Int32.le_toInt x
  exact i_add (y := (1 : Int32)) (by show (_ : Int) ≤ x.toInt + 1; omega) (by show x.toInt + 1 ≤ (_ : Int); omega)
theorem goesC {c0 n : Nat} {S : Stc} (hc : c0 ≤ 33) (sb : SBd n S) : ∀ (j N : Nat) (x1 x2 : Int32) (D : Dyn) (K : Int) (σ : Sg), x1.toInt = x2.toInt + (j : Int) → j < N → x1.toInt ≤ 100000 → K + (j : Int) ≤ 200000 → DBd n K D → CS c0 n S σ → CDy c0 n D σ →
    Ru (LF_X1_goes c0 N x1 x2 σ) (fun σ' => CDy c0 n (aMins S j D) σ' ∧ FXn c0 n σ σ') := by
  intro j
  induction j with
  | zero =>
    intro N x1 x2 D K σ h hN hx hK db hs hd
    obtain ⟨N, rfl⟩ : ∃ i, N = i + 1 := ⟨N - 1, by omega⟩
    show Ru (LB_X1_goes_2 c0 (LF_X1_goes c0 N) x1 x2 σ) _
    unfold LB_X1_goes_2
    exact Ru_t (i_le (by omega)) (Ru_p ⟨hd, FXn_rf⟩)
  | succ j ih =>
    intro N x1 x2 D K σ h hN hx hK db hs hd
    obtain ⟨N, rfl⟩ : ∃ i, N = i + 1 := ⟨N - 1, by omega⟩
    show Ru (LB_X1_goes_2 c0 (LF_X1_goes c0 N) x1 x2 σ) _
    unfold LB_X1_goes_2
    refine Ru_f (i_nle (by omega)) ?_
    refine Ru_fb (minC hc sb db (by omega) hs hd) (fun r3 σ2 h3 => ?_)
    obtain ⟨-, h4, h5⟩ := h3
    refine Ru_fl (fun v4 e4 => ?_)
    exact Ru_w (ih N x1 v4 _ (K + 1) σ2 (by rw [e4, i_inc (by omega)]; omega) (by omega) hx (by omega) (aMin_b sb db) (CS_m hc h5 hs) h4) (fun σ' h => ⟨h.1, FXn_tr h5 h.2⟩)
theorem gosC9 {c0 n j : Nat} {S : Stc} {D : Dyn} {K : Int} {σ : Sg} {a : Int32} (hc : c0 ≤ 33) (sb : SBd n S) (ha : a.toInt = (j : Int)) (hj : j ≤ 60) (hK : K ≤ 100000) (db : DBd n K D) (hs : CS c0 n S σ) (hd : CDy c0 n D σ) :
    Ru (F_X1_goes c0 a σ) (fun σ' => CDy c0 n (aMins S j D) σ' ∧ FXn c0 n σ σ') := by
  unfold F_X1_goes
  exact goesC hc sb j 90 a (0 : Int32) D K σ (by rw [ha]; show _ = (0 : Int) + _; omega) (by omega) (by omega) (by omega) db hs hd
theorem i_m0 {x y : Int32} {a b : Int} (hx : x.toInt = a) (hy : y.toInt = b) (h1 : 0 ≤ a ∧ a ≤ 1000000) (h2 : 0 ≤ b ∧ b ≤ 1000000) : (jmax (0 : Int32) (x - y)).toInt = pos0 (a - b) := jmx0 (by rw [i_sub (by omega) (by omega), hx, hy])
theorem pasC {c0 n : Nat} {D : Dyn} {K u v : Int} {x1 x2 : Int32} (hc : c0 ≤ 33) (db : DBd n K D) (hK : K ≤ 200000) (h1 : x1.toInt = u) (h2 : x2.toInt = v) (hu : 0 ≤ u ∧ u ≤ 1000) (hv : 0 ≤ v ∧ v ≤ 3000) : ∀ (k p N : Nat) (σ : Sg) (x3 : Int32), p + k = n → k < N → n ≤ 6 → (gi σ c0 1).toInt = (n : Int) → x3.toInt = (p : Int) → (gi σ c0 9).toInt = D_m D → (∀ m, m < n → (gi σ (c0 + 3) m).toInt = D_at D m) → (∀ m, m < n → (gi σ (c0 + 4) m).toInt = D_ed D m) → (∀ m, m < n → (gi σ (c0 + 5) m).toInt = if m < p then pos0 (D_ti D m - v) else D_ti D m) → (∀ m, m < n → (gi σ (c0 + 6) m).toInt = if m < p then pos0 (D_st D m - u) else D_st D m) →
    Ru (LF_X1_passes c0 N x1 x2 x3 σ) (fun σ' => CDy c0 n (aPas u v D) σ' ∧ FXn c0 n σ σ') := by
  intro k
  induction k with
  | zero =>
    intro p N σ x3 hp hN n6 hn h3 m1 m2 m3 m4 m5
    obtain ⟨N, rfl⟩ : ∃ i, N = i + 1 := ⟨N - 1, by omega⟩
    have dm := db.1
    show Ru (LB_X1_passes_2 c0 (LF_X1_passes c0 N) x1 x2 x3 σ) _
    unfold LB_X1_passes_2
    refine Ru_t (i_le (by omega)) ?_
    refine Ru_fl (fun σ2 e2 => Ru_p ⟨⟨?_, ?_, ?_, ?_, ?_⟩, ?_⟩)
    · rw [e2, gi_si_eq, i_add (by omega) (by omega), m1, h1]; rfl
    · exact row_k m2 (fun j => by rw [e2, gi_si_ne (Or.inl (by omega))])
    · exact row_k m3 (fun j => by rw [e2, gi_si_ne (Or.inl (by omega))])
    · intro m hm; rw [e2, gi_si_ne (Or.inl (by omega)), m4 m hm, if_pos (by omega)]; rfl
    · intro m hm; rw [e2, gi_si_ne (Or.inl (by omega)), m5 m hm, if_pos (by omega)]; rfl
    · rw [e2]; exact FX_si FX_rf (Or.inr (Or.inl ⟨rfl, rfl⟩))
  | succ k ih =>
    intro p N σ x3 hp hN n6 hn h3 m1 m2 m3 m4 m5
    obtain ⟨N, rfl⟩ : ∃ i, N = i + 1 := ⟨N - 1, by omega⟩
    have hpn : p < n := by omega
    obtain ⟨-, -, -, d4, d5⟩ := DBd_i.mp db
    have d4 := d4 p hpn
    have d5 := d5 p hpn
    have ex := cl_eq (x := x3) (by omega)
    have ep : x3.toNatClampNeg = p := by omega
    have t4 := m4 p hpn
    have t5 := m5 p hpn
    rw [if_neg (by omega)] at t4 t5
    show Ru (LB_X1_passes_2 c0 (LF_X1_passes c0 N) x1 x2 x3 σ) _
    unfold LB_X1_passes_2
    refine Ru_f (i_nle (by omega)) ?_
    rw [ep]
    refine Ru_fl (fun v4 e4 => ?_)
    have v4i : v4.toInt = pos0 (D_ti D p - v) := by rw [e4]; exact i_m0 t4 h2 (by omega) (by omega)
    refine Ru_fl (fun σ6 e6 => ?_)
    refine Ru_fl (fun v8 e8 => ?_)
    have v8i : v8.toInt = pos0 (D_st D p - u) := by rw [e8, e6, gi_si_ne (Or.inl (by omega))]; exact i_m0 t5 h1 (by omega) (by omega)
    refine Ru_fl (fun σ10 e10 => ?_)
    have f10 : FXn c0 n σ σ10 := by rw [e10, e6]; exact FXn_si (FXn_si FXn_rf (by omega)) (by omega)
    refine Ru_fl (fun v11 e11 => ?_)
    refine Ru_w (ih (p + 1) N σ10 v11 (by omega) (by omega) n6 (by rw [FXn_i f10 (by omega)]; exact hn) (by rw [e11, i_inc (by omega)]; omega) (by rw [e10, gi_si_ne (Or.inl (by omega)), e6, gi_si_ne (Or.inl (by omega))]; exact m1) (row_k m2 (fun j => by rw [e10, gi_si_ne (Or.inl (by omega)), e6, gi_si_ne (Or.inl (by omega))])) (row_k m3 (fun j => by rw [e10, gi_si_ne (Or.inl (by omega)), e6, gi_si_ne (Or.inl (by omega))])) (fun m hm => ?_) (fun m hm => ?_)) (fun σ' h => ⟨h.1, FXn_tr f10 h.2⟩)
    · rw [e10, gi_si_ne (Or.inl (by omega)), e6]
      by_cases e : m = p
      · subst e; rw [gi_si_eq, if_pos (by omega)]; exact v4i
      · rw [gi_si_ne (Or.inr e), m4 m hm]
        by_cases q : m < p
        · rw [if_pos q, if_pos (by omega)]
        · rw [if_neg q, if_neg (by omega)]
    · rw [e10]
      by_cases e : m = p
      · subst e; rw [gi_si_eq, if_pos (by omega)]; exact v8i
      · rw [gi_si_ne (Or.inr e), e6, gi_si_ne (Or.inl (by omega)), m5 m hm]
        by_cases q : m < p
        · rw [if_pos q, if_pos (by omega)]
        · rw [if_neg q, if_neg (by omega)]
theorem passC {c0 n : Nat} {D : Dyn} {K u v : Int} {x1 x2 : Int32} {σ : Sg} (hc : c0 ≤ 33) (n6 : n ≤ 6) (db : DBd n K D) (hK : K ≤ 200000) (h1 : x1.toInt = u) (h2 : x2.toInt = v) (hu : 0 ≤ u ∧ u ≤ 1000) (hv : 0 ≤ v ∧ v ≤ 3000) (hn : (gi σ c0 1).toInt = (n : Int)) (hd : CDy c0 n D σ) :
    Ru (F_X1_passes c0 x1 x2 σ) (fun σ' => CDy c0 n (aPas u v D) σ' ∧ FXn c0 n σ σ') := by
  obtain ⟨m1, m2, m3, m4, m5⟩ := hd
  unfold F_X1_passes
  exact pasC hc db hK h1 h2 hu hv n 0 9 σ (0 : Int32) (by omega) (by omega) n6 hn rfl m1 m2 m3 (fun m hm => by rw [if_neg (by omega)]; exact m4 m hm) (fun m hm => by rw [if_neg (by omega)]; exact m5 m hm)
theorem restC {c0 n j : Nat} {S : Stc} {D : Dyn} {K : Int} {a : Int32} {σ : Sg} (hc : c0 ≤ 33) (sb : SBd n S) (db : DBd n K D) (hK : K ≤ 200000) (ha : a.toInt = (j : Int)) (hj : j ≤ 60) (hs : CS c0 n S σ) (hd : CDy c0 n D σ) :
    Ru (F_X1_rests c0 a σ) (fun σ' => CDy c0 n (aPas j (3 * j) D) σ' ∧ FXn c0 n σ σ') := by
  unfold F_X1_rests
  exact Ru_fs (passC hc sb.1 db hK ha (show ((3 : Int32) * a).toInt = 3 * (j : Int) from by rw [i_mull (c := (3 : Int32)) (k := 3) rfl (by omega) (by omega), ha]) (by omega) (by omega) hs.1 hd) (fun s h => Ru_p h)
theorem wheC {c0 n : Nat} {D : Dyn} {K : Int} (hc : c0 ≤ 33) (db : DBd n K D) (hK : K ≤ 200000) : ∀ (k p N : Nat) (σ : Sg) (x1 : Int32), p + k = n → k < N → n ≤ 6 → (gi σ c0 1).toInt = (n : Int) → x1.toInt = (p : Int) → (gi σ c0 9).toInt = D_m D → (∀ m, m < n → (gi σ (c0 + 3) m).toInt = D_at D m) → (∀ m, m < p → (gi σ (c0 + 4) m).toInt = 10) → (∀ m, m < n → (gi σ (c0 + 5) m).toInt = D_ti D m) → (∀ m, m < n → (gi σ (c0 + 6) m).toInt = D_st D m) →
    Ru (LF_X1_whetsAll c0 N x1 σ) (fun σ' => CDy c0 n (aWhe D) σ' ∧ FXn c0 n σ σ') := by
  intro k
  induction k with
  | zero =>
    intro p N σ x1 hp hN n6 hn h1 m1 m2 m3 m4 m5
    obtain ⟨N, rfl⟩ : ∃ i, N = i + 1 := ⟨N - 1, by omega⟩
    obtain ⟨d1, d2, d3, d4, d5⟩ := DBd_i.mp db
    show Ru (LB_X1_whetsAll_2 c0 (LF_X1_whetsAll c0 N) x1 σ) _
    unfold LB_X1_whetsAll_2
    refine Ru_t (i_le (by omega)) ?_
    have db' : DBd n K (D_m D, D_at D, (fun _ => 10), D_ti D, D_st D) := DBd_i.mpr ⟨d1, d2, fun m hm => ⟨by show (0 : Int) ≤ 10; decide, by show (10 : Int) ≤ 10; decide⟩, d4, d5⟩
    exact Ru_fs (passC (x1 := (1 : Int32)) (x2 := (1 : Int32)) (u := 1) (v := 1) hc n6 db' hK rfl rfl (by decide +kernel) (by decide +kernel) hn ⟨m1, m2, fun m hm => m3 m (by omega), m4, m5⟩) (fun s h => Ru_p h)
  | succ k ih =>
    intro p N σ x1 hp hN n6 hn h1 m1 m2 m3 m4 m5
    obtain ⟨N, rfl⟩ : ∃ i, N = i + 1 := ⟨N - 1, by omega⟩
    have ex := cl_eq (x := x1) (by omega)
    have ep : x1.toNatClampNeg = p := by omega
    show Ru (LB_X1_whetsAll_2 c0 (LF_X1_whetsAll c0 N) x1 σ) _
    unfold LB_X1_whetsAll_2
    refine Ru_f (i_nle (by omega)) ?_
    rw [ep]
    refine Ru_fl (fun σ4 e4 => ?_)
    have f4 : FXn c0 n σ σ4 := by rw [e4]; exact FXn_si FXn_rf (by omega)
    refine Ru_fl (fun v5 e5 => ?_)
    refine Ru_w (ih (p + 1) N σ4 v5 (by omega) (by omega) n6 (by rw [FXn_i f4 (by omega)]; exact hn) (by rw [e5, i_inc (by omega)]; omega) (by rw [e4, gi_si_ne (Or.inl (by omega))]; exact m1) (row_k m2 (fun j => by rw [e4, gi_si_ne (Or.inl (by omega))])) (fun m hm => ?_) (row_k m4 (fun j => by rw [e4, gi_si_ne (Or.inl (by omega))])) (row_k m5 (fun j => by rw [e4, gi_si_ne (Or.inl (by omega))]))) (fun σ' h => ⟨h.1, FXn_tr f4 h.2⟩)
    rw [e4]
    by_cases e : m = p
    · subst e; rw [gi_si_eq]; rfl
    · rw [gi_si_ne (Or.inr e)]; exact m3 m (by omega)
theorem whetC {c0 n : Nat} {S : Stc} {D : Dyn} {K : Int} {σ : Sg} (hc : c0 ≤ 33) (sb : SBd n S) (db : DBd n K D) (hK : K ≤ 200000) (hs : CS c0 n S σ) (hd : CDy c0 n D σ) :
    Ru (F_X1_whetsAll c0 σ) (fun σ' => CDy c0 n (aWhe D) σ' ∧ FXn c0 n σ σ') := by
  obtain ⟨m1, m2, m3, m4, m5⟩ := hd
  have n6 := sb.1
  unfold F_X1_whetsAll
  exact wheC hc db hK n 0 9 σ (0 : Int32) (by omega) (by omega) n6 hs.1 rfl m1 m2 (fun m hm => absurd hm (Nat.not_lt_zero m)) m4 m5
theorem allLC {c0 n : Nat} {f : Nat → Int} {σ : Sg} (n6 : n ≤ 6) (hn : (gi σ c0 1).toInt = (n : Int)) (hf : ∀ m, m < n → (gi σ (c0 + 3) m).toInt = f m) (hb : ∀ m, m < n → 0 ≤ f m ∧ f m ≤ 9999) : ∀ (k p N : Nat) (x1 x2 : Int32), p + k = n → k < N → x2.toInt = (p : Int) → x1.toInt = aAll f p → ∃ r, LF_X1_allAt c0 N x1 x2 σ = (r, σ) ∧ r.toInt = aAll f n := by
  intro k
  induction k with
  | zero =>
    intro p N x1 x2 hp hN h2 h1
    obtain ⟨N, rfl⟩ : ∃ i, N = i + 1 := ⟨N - 1, by omega⟩
    show ∃ r, LB_X1_allAt_4 c0 (LF_X1_allAt c0 N) x1 x2 σ = (r, σ) ∧ _
    unfold LB_X1_allAt_4
    rw [if_pos (i_le (by omega))]
    exact ⟨x1, rfl, by rw [h1, show p = n from by omega]⟩
  | succ k ih =>
    intro p N x1 x2 hp hN h2 h1
    obtain ⟨N, rfl⟩ : ∃ i, N = i + 1 := ⟨N - 1, by omega⟩
    have ex := cl_eq (x := x2) (by omega)
    have ab := aAll_b hb p (by omega)
    have fb := hb p (by omega)
    have fp := hf p (by omega)
    show ∃ r, LB_X1_allAt_4 c0 (LF_X1_allAt c0 N) x1 x2 σ = (r, σ) ∧ _
    unfold LB_X1_allAt_4
    rw [if_neg (i_nle (by omega)), show x2.toNatClampNeg = p from by omega, fl_e, fl_e]
    exact ih (p + 1) N _ _ (by omega) (by omega) (by rw [i_inc (by omega)]; omega) (by rw [i_add (by omega) (by omega), h1, fp]; rfl)
theorem allC {c0 n : Nat} {K : Int} {D : Dyn} {σ : Sg} (n6 : n ≤ 6) (hn : (gi σ c0 1).toInt = (n : Int)) (db : DBd n K D) (hd : CDy c0 n D σ) : ∃ r, F_X1_allAt c0 σ = (r, σ) ∧ r.toInt = aAll (D_at D) n := by
  unfold F_X1_allAt
  exact allLC n6 hn hd.2.1 (DBd_i.mp db).2.1 n 0 9 (0 : Int32) (0 : Int32) (by omega) (by omega) rfl rfl
theorem donLC {c0 n f : Nat} {g : Nat → Int} {lg : Int} {σ : Sg} (n6 : n ≤ 6) (hn : (gi σ c0 1).toInt = (n : Int)) (hf : ∀ m, m < n → (gi σ (c0 + 3) m).toInt = g m) (h10 : gr σ c0 10 = some f) (hl : (gi σ f 2).toInt = lg) : ∀ (k p N : Nat) (x1 : Int32), p + k = n → k < N → x1.toInt = (p : Int) → LF_X1_isDone c0 N x1 σ = (bI (aDn lg g k p), σ) := by
  intro k
  induction k with
  | zero =>
    intro p N x1 hp hN h1
    obtain ⟨N, rfl⟩ : ∃ i, N = i + 1 := ⟨N - 1, by omega⟩
    show LB_X1_isDone_2 c0 (LF_X1_isDone c0 N) x1 σ = _
    unfold LB_X1_isDone_2
    rw [if_pos (i_le (by omega))]; rfl
  | succ k ih =>
    intro p N x1 hp hN h1
    obtain ⟨N, rfl⟩ : ∃ i, N = i + 1 := ⟨N - 1, by omega⟩
    have ex := cl_eq (x := x1) (by omega)
    have fp := hf p (by omega)
    show LB_X1_isDone_2 c0 (LF_X1_isDone c0 N) x1 σ = (bI (if lg ≤ g p then aDn lg g k (p + 1) else false), σ)
    unfold LB_X1_isDone_2
    rw [if_neg (i_nle (by omega)), h10, show x1.toNatClampNeg = p from by omega]
    show (if gi σ f 2 ≤ gi σ (c0 + 3) p then fl (x1 + 1) (fun v5 => LF_X1_isDone c0 N v5 σ) else ((0 : Int32), σ)) = _
    by_cases q : lg ≤ g p
    · rw [if_pos (i_le (by omega)), if_pos q, fl_e]
      exact ih (p + 1) N _ (by omega) (by omega) (by rw [i_inc (by omega)]; omega)
    · rw [if_neg (i_nle (by omega)), if_neg q]; rfl
theorem donC {c0 n : Nat} {S : Stc} {D : Dyn} {σ : Sg} (n6 : n ≤ 6) (hs : CS c0 n S σ) (hd : CDy c0 n D σ) : F_X1_isDone c0 σ = (bI (aDn (aLg (S_cl S)) (D_at D) n 0), σ) := by
  obtain ⟨s1, s2, s3, s4, s5, ⟨f, g10, hf, fa⟩, s7, s8⟩ := hs
  unfold F_X1_isDone
  exact donLC n6 s1 hd.2.1 g10 fa.2.1.2.2 n 0 9 (0 : Int32) (by omega) (by omega) rfl
/-! the trial becomes now -/
noncomputable def FXv (σ σ' : Sg) : Prop := FX (fun id => (33 ≤ id ∧ id ≤ 48) ∨ (66 ≤ id ∧ id ≤ 68)) (fun _ _ => False) σ σ'
theorem FXv_rf {σ : Sg} : FXv σ σ := FX_rf
theorem FXv_tr {σ σ1 σ2 : Sg} (f : FXv σ σ1) (g : FXv σ1 σ2) : FXv σ σ2 := FX_tr f g (fun _ h => h) (fun _ _ h => Or.inr h)
theorem FXv_i {σ σ1 : Sg} (f : FXv σ σ1) {id k : Nat} (h : (id < 33 ∨ 48 < id) ∧ (id < 66 ∨ 68 < id)) : gi σ1 id k = gi σ id k := FX_i f (fun z => by (try dsimp only at z); omega) (fun z => z)
theorem FXv_r {σ σ1 : Sg} (f : FXv σ σ1) {id k : Nat} (h : (id < 33 ∨ 48 < id) ∧ (id < 66 ∨ 68 < id)) : gr σ1 id k = gr σ id k := FX_r f (fun z => by (try dsimp only at z); omega) (fun z => z)
theorem FXn_v {n : Nat} {σ σ1 : Sg} (f : FXn 33 n σ σ1) : FXv σ σ1 := FX_tr FX_rf f (fun _ h => by (try dsimp only at h ⊢); omega) (fun _ _ h => Or.inl (by (try dsimp only at h ⊢); omega))
theorem CS_v {n : Nat} {S : Stc} {σ σ1 : Sg} (f : FXv σ σ1) (h : CS 1 n S σ) : CS 1 n S σ1 :=
  CS_eq (fun id k a => FXv_i f (by unfold RcC at a; omega)) (fun k => FXv_r f (by omega)) (FXv_r f (by omega)) h
theorem CDy_v {n : Nat} {D : Dyn} {σ σ1 : Sg} (f : FXv σ σ1) (h : CDy 1 n D σ) : CDy 1 n D σ1 := CDy_eq (fun id k a => FXv_i f (by omega)) h
theorem becLC : ∀ (k p N : Nat) (σ : Sg) (x2 : Int32), p + k = 6 → k < N → x2.toInt = (p : Int) →
    Ru (LF_X1_becomes 33 1 N x2 σ) (fun σ' => FXv σ σ' ∧ (∀ j, gi σ' 33 j = gi σ 33 j) ∧ gr σ' 33 10 = gr σ 33 10 ∧ (∀ m, m < 24 → gi σ' 40 m = gi σ 8 m) ∧ (∀ m, m < 6 → gr σ' 34 m = gr σ (if m < p then 34 else 2) m) ∧ ∀ a, a = 2 ∨ a = 3 ∨ a = 4 ∨ a = 5 ∨ a = 6 → ∀ m, m < 6 → gi σ' (33 + a) m = gi σ (if m < p then 33 + a else 1 + a) m) := by
  intro k
  induction k with
  | zero =>
    intro p N σ x2 hp hN h2
    obtain ⟨N, rfl⟩ : ∃ i, N = i + 1 := ⟨N - 1, by omega⟩
    show Ru (LB_X1_becomes_42 33 1 (LF_X1_becomes 33 1 N) x2 σ) _
    unfold LB_X1_becomes_42
    refine Ru_t (i_le (show (6 : Int) ≤ _ by omega)) ?_
    refine Ru_fl (fun σ2 e2 => Ru_p ⟨?_, ?_, ?_, ?_, ?_, ?_⟩)
    · rw [e2]; exact FX_sia FX_rf (Or.inl (by decide +kernel))
    · intro j; rw [e2, gi_sia, if_neg (by decide +kernel)]
    · rw [e2]; rfl
    · intro m hm; rw [e2, gi_sia, if_pos rfl]; exact cpy_in _ _ hm
    · intro m hm; rw [if_pos (show m < p by omega), e2]; rfl
    · intro a ha m hm; rw [if_pos (show m < p by omega), e2, gi_sia, if_neg (by omega)]
  | succ k ih =>
    intro p N σ x2 hp hN h2
    obtain ⟨N, rfl⟩ : ∃ i, N = i + 1 := ⟨N - 1, by omega⟩
    have ex := cl_eq (x := x2) (by omega)
    have ep : x2.toNatClampNeg = p := by omega
    show Ru (LB_X1_becomes_42 33 1 (LF_X1_becomes 33 1 N) x2 σ) _
    unfold LB_X1_becomes_42
    refine Ru_f (i_nle (show _ < (6 : Int) by omega)) ?_
    rw [ep]
    refine Ru_fl (fun σ5 e5 => ?_)
    refine Ru_fl (fun σ9 e9 => ?_)
    refine Ru_fl (fun σ12 e12 => ?_)
    refine Ru_fl (fun σ15 e15 => ?_)
    refine Ru_fl (fun σ18 e18 => ?_)
    refine Ru_fl (fun σ21 e21 => ?_)
    refine Ru_fl (fun v22 e22 => ?_)
    have f21 : FXv σ σ21 := by
      rw [e21, e18, e15, e12, e9, e5]
      exact FX_si (FX_si (FX_si (FX_si (FX_si (FX_sr FX_rf (Or.inl (Or.inl (by omega)))) (Or.inl (Or.inl (by omega)))) (Or.inl (Or.inl (by omega)))) (Or.inl (Or.inl (by omega)))) (Or.inl (Or.inl (by omega)))) (Or.inl (Or.inl (by omega)))
    have gg : ∀ id j, ¬ (35 ≤ id ∧ id ≤ 39 ∧ j = p) → gi σ21 id j = gi σ id j := by
      intro id j h
      rw [e21, gi_si_ne (by omega), e18, gi_si_ne (by omega), e15, gi_si_ne (by omega), e12, gi_si_ne (by omega), e9, gi_si_ne (by omega), e5, gi_sr]
    have rr : ∀ id j, ¬ (id = 34 ∧ j = p) → gr σ21 id j = gr σ id j := by
      intro id j h
      rw [e21, gr_si, e18, gr_si, e15, gr_si, e12, gr_si, e9, gr_si, e5, gr_sr, if_neg h]
    have r34 : gr σ21 34 p = gr σ 2 p := by
      rw [e21, gr_si, e18, gr_si, e15, gr_si, e12, gr_si, e9, gr_si, e5, gr_sr, if_pos ⟨rfl, rfl⟩]
    have own : ∀ a, a = 2 ∨ a = 3 ∨ a = 4 ∨ a = 5 ∨ a = 6 → gi σ21 (33 + a) p = gi σ (1 + a) p := by
      intro a ha
      rcases ha with rfl | rfl | rfl | rfl | rfl
      · rw [e21, gi_si_ne (Or.inl (by decide +kernel)), e18, gi_si_ne (Or.inl (by decide +kernel)), e15, gi_si_ne (Or.inl (by decide +kernel)), e12, gi_si_ne (Or.inl (by decide +kernel)), e9, gi_si_eq, e5, gi_sr]
      · rw [e21, gi_si_ne (Or.inl (by decide +kernel)), e18, gi_si_ne (Or.inl (by decide +kernel)), e15, gi_si_ne (Or.inl (by decide +kernel)), e12, gi_si_eq, e9, gi_si_ne (Or.inl (by decide +kernel)), e5, gi_sr]
      · rw [e21, gi_si_ne (Or.inl (by decide +kernel)), e18, gi_si_ne (Or.inl (by decide +kernel)), e15, gi_si_eq, e12, gi_si_ne (Or.inl (by decide +kernel)), e9, gi_si_ne (Or.inl (by decide +kernel)), e5, gi_sr]
      · rw [e21, gi_si_ne (Or.inl (by decide +kernel)), e18, gi_si_eq, e15, gi_si_ne (Or.inl (by decide +kernel)), e12, gi_si_ne (Or.inl (by decide +kernel)), e9, gi_si_ne (Or.inl (by decide +kernel)), e5, gi_sr]
      · rw [e21, gi_si_eq, e18, gi_si_ne (Or.inl (by decide +kernel)), e15, gi_si_ne (Or.inl (by decide +kernel)), e12, gi_si_ne (Or.inl (by decide +kernel)), e9, gi_si_ne (Or.inl (by decide +kernel)), e5, gi_sr]
    refine Ru_w (ih (p + 1) N σ21 v22 (by omega) (by omega) (by rw [e22, i_inc (by omega)]; omega)) (fun σ' h => ?_)
    obtain ⟨h1, h3, h4, h5, h6, h7⟩ := h
    refine ⟨FXv_tr f21 h1, fun j => by rw [h3, gg 33 j (by omega)], by rw [h4, rr 33 10 (by omega)], fun m hm => by rw [h5 m hm, gg 8 m (by omega)], fun m hm => ?_, fun a ha m hm => ?_⟩
    · rw [h6 m hm]
      by_cases e : m = p
      · subst e; rw [if_pos (show m < m + 1 by omega), if_neg (show ¬ m < m by omega), r34]
      · by_cases q : m < p
        · rw [if_pos (show m < p + 1 by omega), if_pos q]; exact rr 34 m (by omega)
        · rw [if_neg (show ¬ m < p + 1 by omega), if_neg q]; exact rr 2 m (by omega)
    · rw [h7 a ha m hm]
      by_cases e : m = p
      · subst e; rw [if_pos (show m < m + 1 by omega), if_neg (show ¬ m < m by omega)]; exact own a ha
      · by_cases q : m < p
        · rw [if_pos (show m < p + 1 by omega), if_pos q]; exact gg _ m (by omega)
        · rw [if_neg (show ¬ m < p + 1 by omega), if_neg q]; exact gg _ m (by omega)
theorem becC {n : Nat} {S : Stc} {D : Dyn} {σ : Sg} (n6 : n ≤ 6) (rn : S_r S ≤ n) (hs : CS 1 n S σ) (hd : CDy 1 n D σ) :
    Ru (F_X1_becomes 33 1 σ) (fun σ' => CS 33 n S σ' ∧ CDy 33 n D σ' ∧ FXv σ σ') := by
  obtain ⟨s1, s2, s3, s4, s5, ⟨f, g10, hf, fa⟩, s7, s8⟩ := hs
  obtain ⟨d1, d2, d3, d4, d5⟩ := hd
  unfold F_X1_becomes
  refine Ru_fl (fun σ1 e1 => ?_)
  refine Ru_fl (fun σ2 e2 => ?_)
  refine Ru_fl (fun σ3 e3 => ?_)
  have g3 : gr σ3 1 10 = some f := by rw [e3, gr_si, e2, gr_si, e1, gr_si]; exact g10
  refine Ru_o g3 ?_
  refine Ru_fl (fun σ5 e5 => ?_)
  refine Ru_fl (fun σ6 e6 => ?_)
  have o1 : ∀ id j, id ≠ 33 → gi σ6 id j = gi σ id j := by
    intro id j h
    rw [e6, gi_si_ne (Or.inl h), e5, gi_sr, e3, gi_si_ne (Or.inl h), e2, gi_si_ne (Or.inl h), e1, gi_si_ne (Or.inl h)]
  have r1 : ∀ id j, id ≠ 33 → gr σ6 id j = gr σ id j := by
    intro id j h
    rw [e6, gr_si, e5, gr_sr, if_neg (fun z => h z.1), e3, gr_si, e2, gr_si, e1, gr_si]
  have r2 : gr σ6 33 10 = some f := by rw [e6, gr_si, e5, gr_sr, if_pos ⟨rfl, rfl⟩]
  have c1 : gi σ6 33 1 = gi σ 1 1 := by rw [e6, gi_si_ne (Or.inr (by decide +kernel)), e5, gi_sr, e3, gi_si_ne (Or.inr (by decide +kernel)), e2, gi_si_ne (Or.inr (by decide +kernel)), e1, gi_si_eq]
  have c3 : gi σ6 33 3 = gi σ 1 3 := by rw [e6, gi_si_ne (Or.inr (by decide +kernel)), e5, gi_sr, e3, gi_si_ne (Or.inr (by decide +kernel)), e2, gi_si_eq, e1, gi_si_ne (Or.inl (by decide +kernel))]
  have c9 : gi σ6 33 9 = gi σ 1 9 := by rw [e6, gi_si_ne (Or.inr (by decide +kernel)), e5, gi_sr, e3, gi_si_eq, e2, gi_si_ne (Or.inl (by decide +kernel)), e1, gi_si_ne (Or.inl (by decide +kernel))]
  have c11 : gi σ6 33 11 = gi σ 1 11 := by rw [e6, gi_si_eq, e5, gi_sr, e3, gi_si_ne (Or.inl (by decide +kernel)), e2, gi_si_ne (Or.inl (by decide +kernel)), e1, gi_si_ne (Or.inl (by decide +kernel))]
  have f6 : FXv σ σ6 := by
    rw [e6, e5, e3, e2, e1]
    exact FX_si (FX_sr (FX_si (FX_si (FX_si FX_rf (Or.inl (Or.inl (by decide +kernel)))) (Or.inl (Or.inl (by decide +kernel)))) (Or.inl (Or.inl (by decide +kernel)))) (Or.inl (Or.inl (by decide +kernel)))) (Or.inl (Or.inl (by decide +kernel)))
  refine Ru_w (becLC 6 0 9 σ6 (0 : Int32) rfl (by decide +kernel) rfl) (fun σ' h => ?_)
  obtain ⟨h1, h3, h4, h5, h6, h7⟩ := h
  have fv := FXv_tr f6 h1
  have w : ∀ a, a = 2 ∨ a = 3 ∨ a = 4 ∨ a = 5 ∨ a = 6 → ∀ m, m < 6 → gi σ' (33 + a) m = gi σ (1 + a) m := fun a ha m hm => by
    have := h7 a ha m hm
    rw [if_neg (Nat.not_lt_zero m)] at this
    rw [this, o1 _ m (by omega)]
  refine ⟨⟨by rw [h3, c1]; exact s1, by rw [h3, c3]; exact s2, fun p hp => ?_, fun m hm => ?_, fun k hk => by rw [h5 k hk, o1 8 k (by decide +kernel)]; exact s5 k hk, ⟨f, by rw [h4]; exact r2, hf, FdA_eq (fun id k a b => FXv_i fv (by omega)) fa⟩, s7, by rw [h3, c11]; exact s8⟩, ⟨by rw [h3, c9]; exact d1, fun m hm => ?_, fun m hm => ?_, fun m hm => ?_, fun m hm => ?_⟩, fv⟩
  · rw [w 2 (by omega) p (by omega)]; exact s3 p hp
  · obtain ⟨μ, κ, a1, a2, a3, a4, a5, a6, a7, a8⟩ := s4 m hm
    have h9 := h6 m (by omega)
    rw [if_neg (Nat.not_lt_zero m), r1 2 m (by decide +kernel)] at h9
    exact ⟨μ, κ, by rw [h9]; exact a1, a2, a3, a4, a5, by rw [FXv_i fv (by omega)]; exact a6, by rw [FXv_i fv (by omega)]; exact a7, by rw [FXv_i fv (by omega)]; exact a8⟩
  · rw [w 3 (by omega) m (by omega)]; exact d2 m hm
  · rw [w 4 (by omega) m (by omega)]; exact d3 m hm
  · rw [w 5 (by omega) m (by omega)]; exact d4 m hm
  · rw [w 6 (by omega) m (by omega)]; exact d5 m hm
/-! minutes, whetting, rests, how far all are: in the model; kept and put back -/
theorem aMin_len {S : Stc} {st : Nat → Int} : ∀ (k p : Nat) (l : List Nat) (D : Dyn), (aGos S st k p l D).1.length ≤ l.length + k := by
  intro k
  induction k with
  | zero => intro p l D; exact Nat.le_refl _
  | succ k ih =>
    intro p l D
    have h := ih (p + 1) (if aHd S (st p) D p = true then l ++ [S_ln S p] else l) (aGo S (st p) D p)
    have h2 : (if aHd S (st p) D p = true then l ++ [S_ln S p] else l).length ≤ l.length + 1 := by
      split
      · rw [List.length_append]; exact Nat.le_refl _
      · omega
    show (aGos S st k (p + 1) _ _).1.length ≤ _
    omega
noncomputable def aHel (S : Stc) : Nat → Dyn → Nat → Int
  | 0, _, _ => 0
  | k + 1, D, m => hc (aMin S D).1 m + aHel S k (aMin S D).2 m
/-- how often each was held, as the model counts -/
noncomputable def HTb (n : Nat) (b : Int) (B : Nat → Int) (σ : Sg) : Prop := ∀ m, m < n → (0 ≤ B m ∧ B m ≤ b) ∧ (gi σ 132 m).toInt = B m
theorem HTb_q {n : Nat} {b : Int} {B : Nat → Int} {S : Stc} {D : Dyn} {σ σ' : Sg} (r6 : S_r S ≤ 6) (hb : b ≤ 90000) (h : ∀ B, HTm n B [] σ → HTm n B (aMin S D).1 σ') (q : HTb n b B σ) : HTb n (b + 6) (fun m => B m + hc (aMin S D).1 m) σ' := by
  have h1 := h B (fun m hm => ⟨by have := (q m hm).1; omega, by rw [(q m hm).2]; show B m = B m + 0; omega⟩)
  intro m hm
  have hl := @aMin_len S (aSt S D) (S_r S) 0 [] D
  have hl' : (aMin S D).1.length ≤ 0 + S_r S := hl
  have hb2 := hc_b (m := m) (aMin S D).1
  have q1 := (q m hm).1
  exact ⟨by show 0 ≤ B m + hc (aMin S D).1 m ∧ B m + hc (aMin S D).1 m ≤ b + 6; omega, (h1 m hm).2⟩
theorem HTb_e {n : Nat} {b : Int} {B B' : Nat → Int} {σ : Sg} (e : ∀ m, m < n → B m = B' m) (q : HTb n b B σ) : HTb n b B' σ := fun m hm => by rw [← e m hm]; exact q m hm
theorem HTb_w {n : Nat} {b b' : Int} {B : Nat → Int} {σ : Sg} (hb : b ≤ b') (q : HTb n b B σ) : HTb n b' B σ := fun m hm => ⟨by have := (q m hm).1; omega, (q m hm).2⟩
theorem mgoesM {n : Nat} {S : Stc} (sb : SBd n S) : ∀ (j N : Nat) (x1 x2 : Int32) (D : Dyn) (K : Int) (σ : Sg), x1.toInt = x2.toInt + (j : Int) → j < N → x1.toInt ≤ 100000 → K + (j : Int) ≤ 200000 → DBd n K D → MT n S σ → MDy n D σ →
    Ru (LF_X12_goMinutes N x1 x2 σ) (fun σ' => MDy n (aMins S j D) σ' ∧ FXq n σ σ' ∧ ∀ b B, b + 6 * (j : Int) ≤ 90000 → HTb n b B σ → HTb n (b + 6 * j) (fun m => B m + aHel S j D m) σ') := by
  have rn := sb.2.1
  have n6 := sb.1
  intro j
  induction j with
  | zero =>
    intro N x1 x2 D K σ h hN hx hK db hs hd
    obtain ⟨N, rfl⟩ : ∃ i, N = i + 1 := ⟨N - 1, by omega⟩
    show Ru (LB_X12_goMinutes_2 (LF_X12_goMinutes N) x1 x2 σ) _
    unfold LB_X12_goMinutes_2
    exact Ru_t (i_le (by omega)) (Ru_p ⟨hd, FXq_rf, fun b B hb q => HTb_w (by omega) (HTb_e (fun m _ => by show B m = B m + 0; omega) q)⟩)
  | succ j ih =>
    intro N x1 x2 D K σ h hN hx hK db hs hd
    obtain ⟨N, rfl⟩ : ∃ i, N = i + 1 := ⟨N - 1, by omega⟩
    show Ru (LB_X12_goMinutes_2 (LF_X12_goMinutes N) x1 x2 σ) _
    unfold LB_X12_goMinutes_2
    refine Ru_f (i_nle (by omega)) ?_
    refine Ru_fb (minM sb db (by omega) hs hd) (fun r3 σ2 h3 => ?_)
    obtain ⟨-, h4, h5, h6⟩ := h3
    refine Ru_fl (fun v4 e4 => ?_)
    refine Ru_w (ih N x1 v4 _ (K + 1) σ2 (by rw [e4, i_inc (by omega)]; omega) (by omega) hx (by omega) (aMin_b sb db) (MT_q h5 hs) h4) (fun σ' h => ⟨h.1, FXq_tr h5 h.2.1, fun b B hb q => ?_⟩)
    have q2 := h.2.2 (b + 6) _ (by omega) (HTb_q (by omega) (by omega) h6 q)
    refine HTb_w (by omega) (HTb_e (fun m _ => ?_) q2)
    show B m + hc (aMin S D).1 m + aHel S j (aMin S D).2 m = B m + (hc (aMin S D).1 m + aHel S j (aMin S D).2 m)
    omega
theorem gosM9 {n j : Nat} {S : Stc} {D : Dyn} {K : Int} {σ : Sg} {a : Int32} (sb : SBd n S) (ha : a.toInt = (j : Int)) (hj : j ≤ 60) (hK : K ≤ 100000) (db : DBd n K D) (hs : MT n S σ) (hd : MDy n D σ) :
    Ru (F_X12_goMinutes a σ) (fun σ' => MDy n (aMins S j D) σ' ∧ FXq n σ σ' ∧ ∀ b B, b + 6 * (j : Int) ≤ 90000 → HTb n b B σ → HTb n (b + 6 * j) (fun m => B m + aHel S j D m) σ') := by
  unfold F_X12_goMinutes
  exact mgoesM sb j 300 a (0 : Int32) D K σ (by rw [ha]; show _ = (0 : Int) + _; omega) (by omega) (by omega) (by omega) db hs hd
theorem goWM {n : Nat} {D : Dyn} {K : Int} (db : DBd n K D) (hK : K ≤ 200000) : ∀ (k p N : Nat) (σ : Sg) (x1 : Int32), p + k = n → k < N → n ≤ 6 → (gi σ 74 0).toInt = (n : Int) → x1.toInt = (p : Int) → (gi σ 74 1).toInt = D_m D → (∀ m, m < n → (gi σ 105 m).toInt = D_at D m) → (∀ m, m < p → (gi σ 106 m).toInt = 10) → (∀ m, m < n → (gi σ 107 m).toInt = if m < p then pos0 (D_ti D m - 1) else D_ti D m) → (∀ m, m < n → (gi σ 108 m).toInt = if m < p then pos0 (D_st D m - 1) else D_st D m) →
    Ru (LF_X12_goWhet N x1 σ) (fun σ' => MDy n (aWhe D) σ' ∧ FXq n σ σ') := by
  intro k
  induction k with
  | zero =>
    intro p N σ x1 hp hN n6 hn h1 m1 m2 m3 m4 m5
    obtain ⟨N, rfl⟩ : ∃ i, N = i + 1 := ⟨N - 1, by omega⟩
    have dm := db.1
    show Ru (LB_X12_goWhet_2 (LF_X12_goWhet N) x1 σ) _
    unfold LB_X12_goWhet_2
    refine Ru_t (i_le (by omega)) ?_
    refine Ru_fl (fun σ2 e2 => Ru_p ⟨⟨?_, ?_, ?_, ?_, ?_⟩, ?_⟩)
    · rw [e2, gi_si_eq, i_inc (by omega), m1]; rfl
    · exact row_k m2 (fun j => by rw [e2, gi_si_ne (Or.inl (by decide +kernel))])
    · intro m hm; rw [e2, gi_si_ne (Or.inl (by decide +kernel))]; exact m3 m (by omega)
    · intro m hm; rw [e2, gi_si_ne (Or.inl (by decide +kernel)), m4 m hm, if_pos (by omega)]; rfl
    · intro m hm; rw [e2, gi_si_ne (Or.inl (by decide +kernel)), m5 m hm, if_pos (by omega)]; rfl
    · rw [e2]; exact FX_si FX_rf (Or.inr (Or.inl ⟨rfl, Or.inl rfl⟩))
  | succ k ih =>
    intro p N σ x1 hp hN n6 hn h1 m1 m2 m3 m4 m5
    obtain ⟨N, rfl⟩ : ∃ i, N = i + 1 := ⟨N - 1, by omega⟩
    have hpn : p < n := by omega
    obtain ⟨-, -, -, d4, d5⟩ := DBd_i.mp db
    have d4 := d4 p hpn
    have d5 := d5 p hpn
    have ex := cl_eq (x := x1) (by omega)
    have ep : x1.toNatClampNeg = p := by omega
    have t4 := m4 p hpn
    have t5 := m5 p hpn
    rw [if_neg (by omega)] at t4 t5
    show Ru (LB_X12_goWhet_2 (LF_X12_goWhet N) x1 σ) _
    unfold LB_X12_goWhet_2
    refine Ru_f (i_nle (by omega)) ?_
    rw [ep]
    refine Ru_fl (fun σ4 e4 => ?_)
    have f4 : FXd n σ σ4 := by rw [e4]; exact FXd_si FXd_rf (by omega)
    obtain ⟨r7, i1, i2⟩ := most0 (σ := σ4) (show (gi σ4 107 p - (1 : Int32)).toInt = D_ti D p - 1 from by rw [e4, gi_si_ne (Or.inl (by decide +kernel)), i_sub (y := (1 : Int32)) (by show (_ : Int) ≤ _ - 1; omega) (by show _ - 1 ≤ (_ : Int); omega), t4]; rfl)
    rw [i1, fb_e]
    refine Ru_fl (fun σ9 e9 => ?_)
    have f9 : FXd n σ σ9 := by rw [e9]; exact FXd_si f4 (by omega)
    obtain ⟨r12, j1, j2⟩ := most0 (σ := σ9) (show (gi σ9 108 p - (1 : Int32)).toInt = D_st D p - 1 from by rw [e9, gi_si_ne (Or.inl (by decide +kernel)), e4, gi_si_ne (Or.inl (by decide +kernel)), i_sub (y := (1 : Int32)) (by show (_ : Int) ≤ _ - 1; omega) (by show _ - 1 ≤ (_ : Int); omega), t5]; rfl)
    rw [j1, fb_e]
    refine Ru_fl (fun σa ea => ?_)
    have fa : FXd n σ σa := by rw [ea]; exact FXd_si f9 (by omega)
    refine Ru_fl (fun v15 e15 => ?_)
    refine Ru_w (ih (p + 1) N σa v15 (by omega) (by omega) n6 (by rw [FXd_i fa (by omega)]; exact hn) (by rw [e15, i_inc (by omega)]; omega) (by rw [FXd_i fa (by omega)]; exact m1) (row_k m2 (fun j => by rw [ea, gi_si_ne (Or.inl (by decide +kernel)), e9, gi_si_ne (Or.inl (by decide +kernel)), e4, gi_si_ne (Or.inl (by decide +kernel))])) (fun m hm => ?_) (fun m hm => ?_) (fun m hm => ?_)) (fun σ' h => ⟨h.1, FXq_tr (FXd_q fa) h.2⟩)
    · rw [ea, gi_si_ne (Or.inl (by decide +kernel)), e9, gi_si_ne (Or.inl (by decide +kernel)), e4]
      by_cases e : m = p
      · subst e; rw [gi_si_eq]; rfl
      · rw [gi_si_ne (Or.inr e)]; exact m3 m (by omega)
    · rw [ea, gi_si_ne (Or.inl (by decide +kernel)), e9]
      by_cases e : m = p
      · subst e; rw [gi_si_eq, if_pos (by omega)]; exact i2
      · rw [gi_si_ne (Or.inr e), e4, gi_si_ne (Or.inl (by decide +kernel)), m4 m hm]
        by_cases q : m < p
        · rw [if_pos q, if_pos (by omega)]
        · rw [if_neg q, if_neg (by omega)]
    · rw [ea]
      by_cases e : m = p
      · subst e; rw [gi_si_eq, if_pos (by omega)]; exact j2
      · rw [gi_si_ne (Or.inr e), e9, gi_si_ne (Or.inl (by decide +kernel)), e4, gi_si_ne (Or.inl (by decide +kernel)), m5 m hm]
        by_cases q : m < p
        · rw [if_pos q, if_pos (by omega)]
        · rw [if_neg q, if_neg (by omega)]
theorem whetM {n : Nat} {S : Stc} {D : Dyn} {K : Int} {σ : Sg} (sb : SBd n S) (db : DBd n K D) (hK : K ≤ 200000) (hs : MS n S σ) (hd : MDy n D σ) : Ru (F_X12_goWhet σ) (fun σ' => MDy n (aWhe D) σ' ∧ FXq n σ σ') := by
  obtain ⟨m1, m2, m3, m4, m5⟩ := hd
  have n6 := sb.1
  unfold F_X12_goWhet
  exact goWM db hK n 0 9 σ (0 : Int32) (by omega) (by omega) n6 hs.1 rfl m1 m2 (fun m hm => absurd hm (Nat.not_lt_zero m)) (fun m hm => by rw [if_neg (Nat.not_lt_zero m)]; exact m4 m hm) (fun m hm => by rw [if_neg (Nat.not_lt_zero m)]; exact m5 m hm)
theorem goPM {n j : Nat} {D : Dyn} {K : Int} {a : Int32} (db : DBd n K D) (hK : K ≤ 200000) (ha : a.toInt = (j : Int)) (hj : j ≤ 60) : ∀ (k p N : Nat) (σ : Sg) (x2 : Int32), p + k = n → k < N → n ≤ 6 → (gi σ 74 0).toInt = (n : Int) → x2.toInt = (p : Int) → (gi σ 74 1).toInt = D_m D → (∀ m, m < n → (gi σ 105 m).toInt = D_at D m) → (∀ m, m < n → (gi σ 106 m).toInt = D_ed D m) → (∀ m, m < n → (gi σ 107 m).toInt = if m < p then pos0 (D_ti D m - 3 * (j : Int)) else D_ti D m) → (∀ m, m < n → (gi σ 108 m).toInt = if m < p then pos0 (D_st D m - (j : Int)) else D_st D m) →
    Ru (LF_X12_goPause N a x2 σ) (fun σ' => MDy n (aPas j (3 * j) D) σ' ∧ FXq n σ σ') := by
  have a3 : ((3 : Int32) * a).toInt = 3 * (j : Int) := by rw [i_mull (c := (3 : Int32)) (k := 3) rfl (by omega) (by omega), ha]
  intro k
  induction k with
  | zero =>
    intro p N σ x2 hp hN n6 hn h1 m1 m2 m3 m4 m5
    obtain ⟨N, rfl⟩ : ∃ i, N = i + 1 := ⟨N - 1, by omega⟩
    have dm := db.1
    show Ru (LB_X12_goPause_2 (LF_X12_goPause N) a x2 σ) _
    unfold LB_X12_goPause_2
    refine Ru_t (i_le (by omega)) ?_
    refine Ru_fl (fun σ2 e2 => Ru_p ⟨⟨?_, ?_, ?_, ?_, ?_⟩, ?_⟩)
    · rw [e2, gi_si_eq, i_add (by omega) (by omega), m1, ha]; rfl
    · exact row_k m2 (fun j => by rw [e2, gi_si_ne (Or.inl (by decide +kernel))])
    · exact row_k m3 (fun j => by rw [e2, gi_si_ne (Or.inl (by decide +kernel))])
    · intro m hm; rw [e2, gi_si_ne (Or.inl (by decide +kernel)), m4 m hm, if_pos (by omega)]; rfl
    · intro m hm; rw [e2, gi_si_ne (Or.inl (by decide +kernel)), m5 m hm, if_pos (by omega)]; rfl
    · rw [e2]; exact FX_si FX_rf (Or.inr (Or.inl ⟨rfl, Or.inl rfl⟩))
  | succ k ih =>
    intro p N σ x2 hp hN n6 hn h1 m1 m2 m3 m4 m5
    obtain ⟨N, rfl⟩ : ∃ i, N = i + 1 := ⟨N - 1, by omega⟩
    have hpn : p < n := by omega
    obtain ⟨-, -, -, d4, d5⟩ := DBd_i.mp db
    have d4 := d4 p hpn
    have d5 := d5 p hpn
    have ex := cl_eq (x := x2) (by omega)
    have ep : x2.toNatClampNeg = p := by omega
    have t4 := m4 p hpn
    have t5 := m5 p hpn
    rw [if_neg (by omega)] at t4 t5
    show Ru (LB_X12_goPause_2 (LF_X12_goPause N) a x2 σ) _
    unfold LB_X12_goPause_2
    refine Ru_f (i_nle (by omega)) ?_
    rw [ep]
    obtain ⟨r7, i1, i2⟩ := most0 (σ := σ) (show (gi σ 107 p - ((3 : Int32) * a)).toInt = D_ti D p - 3 * (j : Int) from by rw [i_sub (by omega) (by omega), t4, a3])
    rw [i1, fb_e]
    refine Ru_fl (fun σ9 e9 => ?_)
    have f9 : FXd n σ σ9 := by rw [e9]; exact FXd_si FXd_rf (by omega)
    obtain ⟨r12, j1, j2⟩ := most0 (σ := σ9) (show (gi σ9 108 p - a).toInt = D_st D p - (j : Int) from by rw [e9, gi_si_ne (Or.inl (by decide +kernel)), i_sub (by omega) (by omega), t5, ha])
    rw [j1, fb_e]
    refine Ru_fl (fun σa ea => ?_)
    have fa : FXd n σ σa := by rw [ea]; exact FXd_si f9 (by omega)
    refine Ru_fl (fun v15 e15 => ?_)
    refine Ru_w (ih (p + 1) N σa v15 (by omega) (by omega) n6 (by rw [FXd_i fa (by omega)]; exact hn) (by rw [e15, i_inc (by omega)]; omega) (by rw [FXd_i fa (by omega)]; exact m1) (row_k m2 (fun j => by rw [ea, gi_si_ne (Or.inl (by decide +kernel)), e9, gi_si_ne (Or.inl (by decide +kernel))])) (row_k m3 (fun j => by rw [ea, gi_si_ne (Or.inl (by decide +kernel)), e9, gi_si_ne (Or.inl (by decide +kernel))])) (fun m hm => ?_) (fun m hm => ?_)) (fun σ' h => ⟨h.1, FXq_tr (FXd_q fa) h.2⟩)
    · rw [ea, gi_si_ne (Or.inl (by decide +kernel)), e9]
      by_cases e : m = p
      · subst e; rw [gi_si_eq, if_pos (by omega)]; exact i2
      · rw [gi_si_ne (Or.inr e), m4 m hm]
        by_cases q : m < p
        · rw [if_pos q, if_pos (by omega)]
        · rw [if_neg q, if_neg (by omega)]
    · rw [ea]
      by_cases e : m = p
      · subst e; rw [gi_si_eq, if_pos (by omega)]; exact j2
      · rw [gi_si_ne (Or.inr e), e9, gi_si_ne (Or.inl (by decide +kernel)), m5 m hm]
        by_cases q : m < p
        · rw [if_pos q, if_pos (by omega)]
        · rw [if_neg q, if_neg (by omega)]
theorem pausM {n j : Nat} {S : Stc} {D : Dyn} {K : Int} {σ : Sg} {a : Int32} (sb : SBd n S) (db : DBd n K D) (hK : K ≤ 200000) (ha : a.toInt = (j : Int)) (hj : j ≤ 60) (hs : MS n S σ) (hd : MDy n D σ) : Ru (F_X12_goPause a σ) (fun σ' => MDy n (aPas j (3 * j) D) σ' ∧ FXq n σ σ') := by
  obtain ⟨m1, m2, m3, m4, m5⟩ := hd
  have n6 := sb.1
  unfold F_X12_goPause
  exact goPM db hK ha hj n 0 9 σ (0 : Int32) (by omega) (by omega) n6 hs.1 rfl m1 m2 m3 (fun m hm => by rw [if_neg (Nat.not_lt_zero m)]; exact m4 m hm) (fun m hm => by rw [if_neg (Nat.not_lt_zero m)]; exact m5 m hm)
theorem allLM {n : Nat} {f : Nat → Int} {σ : Sg} (n6 : n ≤ 6) (hn : (gi σ 74 0).toInt = (n : Int)) (hf : ∀ m, m < n → (gi σ 105 m).toInt = f m) (hb : ∀ m, m < n → 0 ≤ f m ∧ f m ≤ 9999) : ∀ (k p N : Nat) (x1 x2 : Int32), p + k = n → k < N → x2.toInt = (p : Int) → x1.toInt = aAll f p → ∃ r, LF_X12_all N x1 x2 σ = (r, σ) ∧ r.toInt = aAll f n := by
  intro k
  induction k with
  | zero =>
    intro p N x1 x2 hp hN h2 h1
    obtain ⟨N, rfl⟩ : ∃ i, N = i + 1 := ⟨N - 1, by omega⟩
    show ∃ r, LB_X12_all_4 (LF_X12_all N) x1 x2 σ = (r, σ) ∧ _
    unfold LB_X12_all_4
    rw [if_pos (i_le (by omega))]
    exact ⟨x1, rfl, by rw [h1, show p = n from by omega]⟩
  | succ k ih =>
    intro p N x1 x2 hp hN h2 h1
    obtain ⟨N, rfl⟩ : ∃ i, N = i + 1 := ⟨N - 1, by omega⟩
    have ex := cl_eq (x := x2) (by omega)
    have ab := aAll_b hb p (by omega)
    have fb := hb p (by omega)
    have fp := hf p (by omega)
    show ∃ r, LB_X12_all_4 (LF_X12_all N) x1 x2 σ = (r, σ) ∧ _
    unfold LB_X12_all_4
    rw [if_neg (i_nle (by omega)), show x2.toNatClampNeg = p from by omega, fl_e, fl_e]
    exact ih (p + 1) N _ _ (by omega) (by omega) (by rw [i_inc (by omega)]; omega) (by rw [i_add (by omega) (by omega), h1, fp]; rfl)
theorem allM {n : Nat} {K : Int} {D : Dyn} {σ : Sg} (n6 : n ≤ 6) (hn : (gi σ 74 0).toInt = (n : Int)) (db : DBd n K D) (hd : MDy n D σ) : ∃ r, F_X12_all σ = (r, σ) ∧ r.toInt = aAll (D_at D) n := by
  unfold F_X12_all
  exact allLM n6 hn hd.2.1 (DBd_i.mp db).2.1 n 0 9 (0 : Int32) (0 : Int32) (by omega) (by omega) rfl rfl
theorem lngM {n : Nat} {S : Stc} {σ : Sg} (sb : SBd n S) (hs : MS n S σ) : ∃ r, F_X12_fieldLong σ = (r, σ) ∧ r.toInt = aLg (S_cl S) := by
  obtain ⟨r, l1, l2⟩ := lastM (w := 4) (d := 60) (x1 := (4 : Int32)) (x2 := (60 : Int32)) sb.2.2.2.2.2.2.2.2.1 sb.2.2.2.2.2.2.2.2.2 rfl rfl hs.2.2.2.2.2.2.1
  obtain ⟨q, m1, m2⟩ := mst (x := (1 : Int32)) (a := 1) (σ := σ) rfl l2
  unfold F_X12_fieldLong
  rw [l1, fb_e, m1, fb_e]
  refine ⟨q, rfl, ?_⟩
  rw [m2]
  unfold aLg
  split <;> split <;> omega
theorem donLM {n : Nat} {S : Stc} {g : Nat → Int} {σ : Sg} (sb : SBd n S) (hs : MS n S σ) (hf : ∀ m, m < n → (gi σ 105 m).toInt = g m) : ∀ (k p N : Nat) (x1 : Int32), p + k = n → k < N → x1.toInt = (p : Int) → LF_X12_isDone N x1 σ = (bI (aDn (aLg (S_cl S)) g k p), σ) := by
  have n6 := sb.1
  have hn := hs.1
  obtain ⟨r, l1, l2⟩ := lngM sb hs
  intro k
  induction k with
  | zero =>
    intro p N x1 hp hN h1
    obtain ⟨N, rfl⟩ : ∃ i, N = i + 1 := ⟨N - 1, by omega⟩
    show LB_X12_isDone_2 (LF_X12_isDone N) x1 σ = _
    unfold LB_X12_isDone_2
    rw [if_pos (i_le (by omega))]; rfl
  | succ k ih =>
    intro p N x1 hp hN h1
    obtain ⟨N, rfl⟩ : ∃ i, N = i + 1 := ⟨N - 1, by omega⟩
    have ex := cl_eq (x := x1) (by omega)
    have fp := hf p (by omega)
    show LB_X12_isDone_2 (LF_X12_isDone N) x1 σ = (bI (if aLg (S_cl S) ≤ g p then aDn (aLg (S_cl S)) g k (p + 1) else false), σ)
    unfold LB_X12_isDone_2
    rw [if_neg (i_nle (by omega)), l1, fb_e, show x1.toNatClampNeg = p from by omega]
    by_cases q : aLg (S_cl S) ≤ g p
    · rw [if_pos (i_le (by omega)), if_pos q, fl_e]
      exact ih (p + 1) N _ (by omega) (by omega) (by rw [i_inc (by omega)]; omega)
    · rw [if_neg (i_nle (by omega)), if_neg q]; rfl
theorem donM {n : Nat} {S : Stc} {D : Dyn} {σ : Sg} (sb : SBd n S) (hs : MS n S σ) (hd : MDy n D σ) : F_X12_isDone σ = (bI (aDn (aLg (S_cl S)) (D_at D) n 0), σ) := by
  have n6 := sb.1
  unfold F_X12_isDone
  exact donLM sb hs hd.2.1 n 0 9 (0 : Int32) (by omega) (by omega) rfl
/-! kept and put back -/
noncomputable def Pz (id k : Nat) : Prop := id = 129 ∨ (131 ≤ id ∧ id ≤ 132) ∨ (134 ≤ id ∧ id ≤ 140) ∨ (id = 74 ∧ (k = 30 ∨ k = 33))
noncomputable def Pw (id k : Nat) : Prop := Pz id k ∨ (id = 74 ∧ k = 1) ∨ (105 ≤ id ∧ id ≤ 108 ∧ k < 6)
noncomputable def FXz (σ σ' : Sg) : Prop := ∀ id k, ¬ Pz id k → gi σ' id k = gi σ id k
noncomputable def FXw (σ σ' : Sg) : Prop := ∀ id k, ¬ Pw id k → gi σ' id k = gi σ id k
theorem FXz_rf {σ : Sg} : FXz σ σ := fun _ _ _ => rfl
theorem FXz_tr {σ σ1 σ2 : Sg} (f : FXz σ σ1) (g : FXz σ1 σ2) : FXz σ σ2 := fun id k h => (g id k h).trans (f id k h)
theorem FXw_tr {σ σ1 σ2 : Sg} (f : FXw σ σ1) (g : FXw σ1 σ2) : FXw σ σ2 := fun id k h => (g id k h).trans (f id k h)
theorem FXz_w {σ σ1 : Sg} (f : FXz σ σ1) : FXw σ σ1 := fun id k h => f id k (fun z => h (Or.inl z))
theorem FXz_i {σ σ1 : Sg} (f : FXz σ σ1) {id k : Nat} (h : id ≠ 129 ∧ (id < 131 ∨ 132 < id) ∧ (id < 134 ∨ 140 < id) ∧ (id ≠ 74 ∨ (k ≠ 30 ∧ k ≠ 33))) : gi σ1 id k = gi σ id k := f id k (fun z => by unfold Pz at z; omega)
theorem FXq_w {n : Nat} {σ σ1 : Sg} (n6 : n ≤ 6) (f : FXq n σ σ1) : FXw σ σ1 := fun id k h => FXq_i f (by unfold Pw Pz at h; omega)
theorem MT_z {n : Nat} {S : Stc} {σ σ1 : Sg} (f : FXz σ σ1) (h : MT n S σ) : MT n S σ1 := MT_eq (fun id k a => FXz_i f (by omega)) h
theorem MS_z {n : Nat} {S : Stc} {σ σ1 : Sg} (f : FXz σ σ1) (h : MS n S σ) : MS n S σ1 := MS_eq (fun id k a => FXz_i f (by omega)) h
theorem MDy_z {n : Nat} {D : Dyn} {σ σ1 : Sg} (f : FXz σ σ1) (h : MDy n D σ) : MDy n D σ1 := MDy_eq (fun id k a => FXz_i f (by omega)) h
/-- kept rows: what the model will put back -/
noncomputable def KP (σ0 σ : Sg) : Prop := FXw σ0 σ ∧ gi σ 74 33 = gi σ0 74 1 ∧ ∀ a, a < 4 → ∀ k, k < 6 → gi σ (134 + a) k = gi σ0 (105 + a) k
theorem KP_q {n : Nat} {σ0 σ σ1 : Sg} (n6 : n ≤ 6) (k : KP σ0 σ) (f : FXq n σ σ1) : KP σ0 σ1 := by
  obtain ⟨k1, k2, k3⟩ := k
  exact ⟨FXw_tr k1 (FXq_w n6 f), by rw [FXq_i f (by omega)]; exact k2, fun a ha k hk => by rw [FXq_i f (by omega)]; exact k3 a ha k hk⟩
theorem KP_si {σ0 σ : Sg} {a k : Nat} {v : Int32} (h : (105 ≤ a ∧ a ≤ 108 ∧ k < 6) ∨ (138 ≤ a ∧ a ≤ 140)) (q : KP σ0 σ) : KP σ0 (si σ a k v) := by
  obtain ⟨k1, k2, k3⟩ := q
  exact ⟨FXw_tr k1 (fun id j hj => gi_si_ne (by unfold Pw Pz at hj; omega)), by rw [gi_si_ne (Or.inl (by omega))]; exact k2, fun b hb k hk => by rw [gi_si_ne (Or.inl (by omega))]; exact k3 b hb k hk⟩
theorem savLM : ∀ (k p N : Nat) (σ : Sg) (x : Int32), p + k = 6 → k < N → x.toInt = (p : Int) →
    Ru (LF_X12_save N x σ) (fun σ' => FX (fun id => id = 132 ∨ (134 ≤ id ∧ id ≤ 137)) (fun _ _ => False) σ σ' ∧ (∀ a, a < 4 → ∀ k, k < 6 → gi σ' (134 + a) k = gi σ (if k < p then 134 + a else 105 + a) k) ∧ ∀ k, k < 6 → gi σ' 132 k = if k < p then gi σ 132 k else 0) := by
  intro k
  induction k with
  | zero =>
    intro p N σ x hp hN hx
    obtain ⟨N, rfl⟩ : ∃ i, N = i + 1 := ⟨N - 1, by omega⟩
    show Ru (LB_X12_save_10 (LF_X12_save N) x σ) _
    unfold LB_X12_save_10
    exact Ru_t (i_le (show (6 : Int) ≤ _ by omega)) (Ru_p ⟨FX_rf, fun a _ k hk => by rw [if_pos (by omega)], fun k hk => by rw [if_pos (by omega)]⟩)
  | succ k ih =>
    intro p N σ x hp hN hx
    obtain ⟨N, rfl⟩ : ∃ i, N = i + 1 := ⟨N - 1, by omega⟩
    have ex := cl_eq (x := x) (by omega)
    have ep : x.toNatClampNeg = p := by omega
    show Ru (LB_X12_save_10 (LF_X12_save N) x σ) _
    unfold LB_X12_save_10
    refine Ru_f (i_nle (show _ < (6 : Int) by omega)) ?_
    rw [ep]
    refine Ru_fl (fun σ4 e4 => ?_)
    refine Ru_fl (fun σ7 e7 => ?_)
    refine Ru_fl (fun σ10 e10 => ?_)
    refine Ru_fl (fun σ13 e13 => ?_)
    refine Ru_fl (fun σ15 e15 => ?_)
    refine Ru_fl (fun v16 e16 => ?_)
    have gg : ∀ id j, ¬ ((id = 132 ∨ (134 ≤ id ∧ id ≤ 137)) ∧ j = p) → gi σ15 id j = gi σ id j := by
      intro id j h
      rw [e15, gi_si_ne (by omega), e13, gi_si_ne (by omega), e10, gi_si_ne (by omega), e7, gi_si_ne (by omega), e4, gi_si_ne (by omega)]
    have own : ∀ a, a < 4 → gi σ15 (134 + a) p = gi σ (105 + a) p := by
      intro a ha
      rcases (show a = 0 ∨ a = 1 ∨ a = 2 ∨ a = 3 by omega) with rfl | rfl | rfl | rfl
      · rw [e15, gi_si_ne (Or.inl (by decide +kernel)), e13, gi_si_ne (Or.inl (by decide +kernel)), e10, gi_si_ne (Or.inl (by decide +kernel)), e7, gi_si_ne (Or.inl (by decide +kernel)), e4, gi_si_eq]
      · rw [e15, gi_si_ne (Or.inl (by decide +kernel)), e13, gi_si_ne (Or.inl (by decide +kernel)), e10, gi_si_ne (Or.inl (by decide +kernel)), e7, gi_si_eq, e4, gi_si_ne (Or.inl (by decide +kernel))]
      · rw [e15, gi_si_ne (Or.inl (by decide +kernel)), e13, gi_si_ne (Or.inl (by decide +kernel)), e10, gi_si_eq, e7, gi_si_ne (Or.inl (by decide +kernel)), e4, gi_si_ne (Or.inl (by decide +kernel))]
      · rw [e15, gi_si_ne (Or.inl (by decide +kernel)), e13, gi_si_eq, e10, gi_si_ne (Or.inl (by decide +kernel)), e7, gi_si_ne (Or.inl (by decide +kernel)), e4, gi_si_ne (Or.inl (by decide +kernel))]
    have o132 : gi σ15 132 p = 0 := by rw [e15, gi_si_eq]
    have f15 : FX (fun id => id = 132 ∨ (134 ≤ id ∧ id ≤ 137)) (fun _ _ => False) σ σ15 := by
      rw [e15, e13, e10, e7, e4]
      exact FX_si (FX_si (FX_si (FX_si (FX_si FX_rf (Or.inl (Or.inr (by omega)))) (Or.inl (Or.inr (by omega)))) (Or.inl (Or.inr (by omega)))) (Or.inl (Or.inr (by omega)))) (Or.inl (Or.inl rfl))
    refine Ru_w (ih (p + 1) N σ15 v16 (by omega) (by omega) (by rw [e16, i_inc (by omega)]; omega)) (fun σ' h => ⟨FX_tr f15 h.1 (fun _ h => h) (fun _ _ h => h.elim), fun a ha k hk => ?_, fun k hk => ?_⟩)
    · rw [h.2.1 a ha k hk]
      by_cases e : k = p
      · subst e; rw [if_pos (show k < k + 1 by omega), if_neg (show ¬ k < k by omega)]; exact own a ha
      · by_cases q : k < p
        · rw [if_pos (show k < p + 1 by omega), if_pos q]; exact gg _ k (by omega)
        · rw [if_neg (show ¬ k < p + 1 by omega), if_neg q]; exact gg _ k (by omega)
    · rw [h.2.2 k hk]
      by_cases e : k = p
      · subst e; rw [if_pos (show k < k + 1 by omega), if_neg (show ¬ k < k by omega)]; exact o132
      · by_cases q : k < p
        · rw [if_pos (show k < p + 1 by omega), if_pos q]; exact gg _ k (by omega)
        · rw [if_neg (show ¬ k < p + 1 by omega), if_neg q]
theorem savT {n : Nat} {S : Stc} {D : Dyn} {σ : Sg} (n6 : n ≤ 6) (hs : MT n S σ) (hd : MDy n D σ) : Ru (F_X12_save σ) (fun σ' => KP σ σ' ∧ MT n S σ' ∧ MDy n D σ' ∧ HTb n 0 (fun _ => 0) σ' ∧ FXz σ σ') := by
  unfold F_X12_save
  refine Ru_fl (fun σ1 e1 => ?_)
  refine Ru_w (savLM 6 0 9 σ1 (0 : Int32) rfl (by decide +kernel) rfl) (fun σ' h => ?_)
  obtain ⟨h1, h2, h3⟩ := h
  have f1 : FXz σ σ1 := fun id k h => by rw [e1]; exact gi_si_ne (by unfold Pz at h; omega)
  have fz : FXz σ σ' := FXz_tr f1 (fun id k h => h1.1 id k (fun z => by (try dsimp only at z); unfold Pz at h; omega) (fun z => z))
  refine ⟨⟨FXz_w fz, ?_, fun a ha k hk => ?_⟩, MT_z fz hs, MDy_z fz hd, fun m hm => ⟨⟨Int.le_refl _, Int.le_refl _⟩, ?_⟩, fz⟩
  · have := h1.1 74 33 (by intro z; (try dsimp only at z); omega) (fun z => z)
    rw [this, e1, gi_si_eq]
  · rw [h2 a ha k hk, if_neg (Nat.not_lt_zero k), e1, gi_si_ne (Or.inl (by omega))]
  · rw [h3 m (by omega), if_neg (Nat.not_lt_zero m)]; rfl
theorem savM {n : Nat} {S : Stc} {D : Dyn} {σ : Sg} (n6 : n ≤ 6) (hs : MS n S σ) (hd : MDy n D σ) : Ru (F_X12_save σ) (fun σ' => KP σ σ' ∧ MS n S σ' ∧ MDy n D σ' ∧ HTb n 0 (fun _ => 0) σ' ∧ FXz σ σ') :=
  Ru_w (savT n6 hs.2 hd) (fun σ' h => ⟨h.1, MS_z h.2.2.2.2 hs, h.2.2.1, h.2.2.2.1, h.2.2.2.2⟩)
theorem putLM : ∀ (k p N : Nat) (σ : Sg) (x : Int32), p + k = 6 → k < N → x.toInt = (p : Int) →
    Ru (LF_X12_putBack N x σ) (fun σ' => FX (fun _ => False) (fun id k => 105 ≤ id ∧ id ≤ 108 ∧ k < 6) σ σ' ∧ ∀ a, a < 4 → ∀ k, k < 6 → gi σ' (105 + a) k = gi σ (if k < p then 105 + a else 134 + a) k) := by
  intro k
  induction k with
  | zero =>
    intro p N σ x hp hN hx
    obtain ⟨N, rfl⟩ : ∃ i, N = i + 1 := ⟨N - 1, by omega⟩
    show Ru (LB_X12_putBack_10 (LF_X12_putBack N) x σ) _
    unfold LB_X12_putBack_10
    exact Ru_t (i_le (show (6 : Int) ≤ _ by omega)) (Ru_p ⟨FX_rf, fun a _ k hk => by rw [if_pos (by omega)]⟩)
  | succ k ih =>
    intro p N σ x hp hN hx
    obtain ⟨N, rfl⟩ : ∃ i, N = i + 1 := ⟨N - 1, by omega⟩
    have ex := cl_eq (x := x) (by omega)
    have ep : x.toNatClampNeg = p := by omega
    show Ru (LB_X12_putBack_10 (LF_X12_putBack N) x σ) _
    unfold LB_X12_putBack_10
    refine Ru_f (i_nle (show _ < (6 : Int) by omega)) ?_
    rw [ep]
    refine Ru_fl (fun σ4 e4 => ?_)
    refine Ru_fl (fun σ7 e7 => ?_)
    refine Ru_fl (fun σ10 e10 => ?_)
    refine Ru_fl (fun σ13 e13 => ?_)
    refine Ru_fl (fun v14 e14 => ?_)
    have gg : ∀ id j, ¬ (105 ≤ id ∧ id ≤ 108 ∧ j = p) → gi σ13 id j = gi σ id j := by
      intro id j h
      rw [e13, gi_si_ne (by omega), e10, gi_si_ne (by omega), e7, gi_si_ne (by omega), e4, gi_si_ne (by omega)]
    have own : ∀ a, a < 4 → gi σ13 (105 + a) p = gi σ (134 + a) p := by
      intro a ha
      rcases (show a = 0 ∨ a = 1 ∨ a = 2 ∨ a = 3 by omega) with rfl | rfl | rfl | rfl
      · rw [e13, gi_si_ne (Or.inl (by decide +kernel)), e10, gi_si_ne (Or.inl (by decide +kernel)), e7, gi_si_ne (Or.inl (by decide +kernel)), e4, gi_si_eq]
      · rw [e13, gi_si_ne (Or.inl (by decide +kernel)), e10, gi_si_ne (Or.inl (by decide +kernel)), e7, gi_si_eq, e4, gi_si_ne (Or.inl (by decide +kernel))]
      · rw [e13, gi_si_ne (Or.inl (by decide +kernel)), e10, gi_si_eq, e7, gi_si_ne (Or.inl (by decide +kernel)), e4, gi_si_ne (Or.inl (by decide +kernel))]
      · rw [e13, gi_si_eq, e10, gi_si_ne (Or.inl (by decide +kernel)), e7, gi_si_ne (Or.inl (by decide +kernel)), e4, gi_si_ne (Or.inl (by decide +kernel))]
    have f13 : FX (fun _ => False) (fun id k => 105 ≤ id ∧ id ≤ 108 ∧ k < 6) σ σ13 := by
      rw [e13, e10, e7, e4]
      exact FX_si (FX_si (FX_si (FX_si FX_rf (Or.inr (by omega))) (Or.inr (by omega))) (Or.inr (by omega))) (Or.inr (by omega))
    refine Ru_w (ih (p + 1) N σ13 v14 (by omega) (by omega) (by rw [e14, i_inc (by omega)]; omega)) (fun σ' h => ⟨FX_tr f13 h.1 (fun _ h => h) (fun _ _ h => Or.inr h), fun a ha k hk => ?_⟩)
    rw [h.2 a ha k hk]
    by_cases e : k = p
    · subst e; rw [if_pos (show k < k + 1 by omega), if_neg (show ¬ k < k by omega)]; exact own a ha
    · by_cases q : k < p
      · rw [if_pos (show k < p + 1 by omega), if_pos q]; exact gg _ k (by omega)
      · rw [if_neg (show ¬ k < p + 1 by omega), if_neg q]; exact gg _ k (by omega)
theorem putM {σ0 σ : Sg} (k : KP σ0 σ) : Ru (F_X12_putBack σ) (fun σ' => FXz σ0 σ') := by
  obtain ⟨k1, k2, k3⟩ := k
  unfold F_X12_putBack
  refine Ru_fl (fun σ1 e1 => ?_)
  refine Ru_w (putLM 6 0 9 σ1 (0 : Int32) rfl (by decide +kernel) rfl) (fun σ' h => ?_)
  obtain ⟨h1, h2⟩ := h
  have g1 : ∀ id j, ¬ (id = 74 ∧ j = 1) → gi σ1 id j = gi σ id j := fun id j h => by rw [e1, gi_si_ne (by omega)]
  intro id j a
  by_cases c : id = 74 ∧ j = 1
  · obtain ⟨rfl, rfl⟩ := c
    have := h1.1 74 1 (fun z => z) (fun z => by (try dsimp only at z); omega)
    rw [this, e1, gi_si_eq, k2]
  · by_cases d : 105 ≤ id ∧ id ≤ 108 ∧ j < 6
    · obtain ⟨t, rfl⟩ : ∃ t, id = 105 + t := ⟨id - 105, by omega⟩
      rw [h2 t (by omega) j d.2.2, if_neg (Nat.not_lt_zero j), g1 _ j (by omega), k3 t (by omega) j d.2.2]
    · have e2 := h1.1 id j (fun z => z) (fun z => d z)
      rw [e2, g1 id j c]
      exact k1 id j (fun z => by unfold Pw at z; rcases z with z | z | z; exact a z; exact c z; exact d z)
