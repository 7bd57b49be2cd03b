section Rules3
variable {M : Mx} {cc : ByteArray} {ret : Option FieldType} {own : String} {Ts : List Cond} {rm : Room} {mc ms : Nat} {Qc : Array Value → State → Outcome → State → Prop} {pc : Nat} {lv lv' : List (Nat × Value)} {st : List Value} {σ : Sg} {kn : Nat × Nat}
/-- a mower that lives -/
noncomputable def isW (M : Mx) (μ : Nat) : Prop := ∃ ci : Nat, isMc ci ∧ kd μ = (10 + ci, 0) ∧ μ ∈ ids (mV M)
theorem P_aldTe (C : Cx M cc ret own Ts rm mc ms Qc) {id n e : Nat} {i : Int32} (hk : kd id = (6, n)) (hi : id ∈ ids (mV M)) (hin : vp_in i n) (he : id + 1 + 2 * i.toNatClampNeg = e) (hd : decode cc pc = .ok (.aaload, 1)) (h : PS M (pc + 1) lv (.ref e :: st) σ kn) : PS M pc lv (.int i :: .ref id :: st) σ kn := by
  subst he; exact P_aldT C hk hi hin hd h
noncomputable def KC (own : String) (Ts : List Cond) (idx : Nat) : Prop := Cond.methodLink own idx arraycopyName ∈ Ts ∧ Cond.native arraycopyName ∈ Ts ∧ Cond.static arraycopyName ∈ Ts ∧ Cond.initialized "java/lang/System" ∈ Ts
theorem P_copyi (C : Cx M cc ret own Ts rm mc ms Qc) {idx src dst n0 n1 : Nat} {sp dp n : Int32} (k : KC own Ts idx) (hk0 : kd src = (0, n0)) (hi0 : src ∈ ids (mV M)) (hk1 : kd dst = (0, n1)) (hi1 : dst ∈ ids (mV M)) (h1 : ¬ sp < 0) (h2 : ¬ dp < 0) (h3 : ¬ n < 0) (h4 : sp.toNatClampNeg + n.toNatClampNeg ≤ n0) (h5 : dp.toNatClampNeg + n.toNatClampNeg ≤ n1) (hR : 1 ≤ rm.frames) (hL : (st.map fun v => v.category).sum + (nativeFrameWords "java/lang/System" "arraycopy" 5 + 11) ≤ rm.locals) (hd : decode cc pc = .ok (.invokestatic idx, 3)) (h : PS M (pc + 3) lv st (sia σ dst (va_cpy (σ.1 src) (σ.1 dst) sp.toNatClampNeg dp.toNatClampNeg n.toNatClampNeg)) kn) : PS M pc lv (.int n :: .int dp :: .ref dst :: .int sp :: .ref src :: st) σ kn := by
  obtain ⟨p, l, e, R, s, m, args, below, meth, c, V, nL, Q⟩ := M
  intro ls H locs hl hG hS
  obtain ⟨hx, hb, hml, hown, hts, hr, hlk, hK, rfl, rfl, hw, hX⟩ := C
  obtain ⟨k1, k2, k3, k4⟩ := k
  obtain ⟨q0, hq0⟩ := cell_at (V := V) (σ := σ) hi0
  obtain ⟨q1, hq1⟩ := cell_at (V := V) (σ := σ) hi1
  have hq1' := hq1
  rw [ct_i hk0 (by decide)] at hq0
  rw [ct_i hk1 (by decide)] at hq1
  have e9 : (st.map (cv V)).map (fun v => v.category) = st.map (fun v => v.category) := by rw [List.map_map]; exact List.map_congr_left (fun v _ => cv_cat V v)
  refine va_copyi (D := vD V) hx hb (hml.trans hl.1.symm) hown (hts _ k1) (hts _ k2) (hts _ k3) (hts _ k4) hK hG.1 hG.2.1 hS q0 q1 0 0 hq0 hq1 rfl rfl rfl h1 h2 h3 h4 h5 (fun i _ => rfl) hR (by rw [e9]; exact hL) hd (fun H1 locs1 hP hD hS => ?_)
  have e : (cells V σ).set q1 (va V dst, .inl (vC V 0, n1, .inl (va_cpy (σ.1 src) (σ.1 dst) sp.toNatClampNeg dp.toNatClampNeg n.toNatClampNeg))) = cells V (sia σ dst (va_cpy (σ.1 src) (σ.1 dst) sp.toNatClampNeg dp.toNatClampNeg n.toNatClampNeg)) := by
    have e := cell_set (σ' := sia σ dst (va_cpy (σ.1 src) (σ.1 dst) sp.toNatClampNeg dp.toNatClampNeg n.toNatClampNeg)) hG.2.1 hq1' hi1 (fun j hj => ct_sia hj)
    rw [ct_i hk1 (by decide)] at e
    rw [← e]
    show _ = List.set _ _ (_, Sum.inl (_, _, Sum.inl (va_up σ.1 dst _ dst)))
    rw [va_up_self]
  rw [e] at hP hD
  exact h ls H1 locs1 hl ⟨hP, hD, hG.2.2⟩ hS
theorem P_copyl (C : Cx M cc ret own Ts rm mc ms Qc) {idx src dst n0 n1 : Nat} {sp dp n : Int32} (k : KC own Ts idx) (hk0 : kd src = (3, n0)) (hi0 : src ∈ ids (mV M)) (hk1 : kd dst = (3, n1)) (hi1 : dst ∈ ids (mV M)) (h1 : ¬ sp < 0) (h2 : ¬ dp < 0) (h3 : ¬ n < 0) (h4 : sp.toNatClampNeg + n.toNatClampNeg ≤ n0) (h5 : dp.toNatClampNeg + n.toNatClampNeg ≤ n1) (hR : 1 ≤ rm.frames) (hL : (st.map fun v => v.category).sum + (nativeFrameWords "java/lang/System" "arraycopy" 5 + 11) ≤ rm.locals) (hd : decode cc pc = .ok (.invokestatic idx, 3)) (h : PS M (pc + 3) lv st (sla σ dst (va_cpy (σ.2.1 src) (σ.2.1 dst) sp.toNatClampNeg dp.toNatClampNeg n.toNatClampNeg)) kn) : PS M pc lv (.int n :: .int dp :: .ref dst :: .int sp :: .ref src :: st) σ kn := by
  obtain ⟨p, l, e, R, s, m, args, below, meth, c, V, nL, Q⟩ := M
  intro ls H locs hl hG hS
  obtain ⟨hx, hb, hml, hown, hts, hr, hlk, hK, rfl, rfl, hw, hX⟩ := C
  obtain ⟨k1, k2, k3, k4⟩ := k
  obtain ⟨q0, hq0⟩ := cell_at (V := V) (σ := σ) hi0
  obtain ⟨q1, hq1⟩ := cell_at (V := V) (σ := σ) hi1
  have hq1' := hq1
  rw [ct_l hk0] at hq0
  rw [ct_l hk1] at hq1
  have e9 : (st.map (cv V)).map (fun v => v.category) = st.map (fun v => v.category) := by rw [List.map_map]; exact List.map_congr_left (fun v _ => cv_cat V v)
  refine va_copyl (D := vD V) hx hb (hml.trans hl.1.symm) hown (hts _ k1) (hts _ k2) (hts _ k3) (hts _ k4) hK hG.1 hG.2.1 hS q0 q1 3 3 hq0 hq1 rfl rfl rfl h1 h2 h3 h4 h5 (fun i _ => rfl) hR (by rw [e9]; exact hL) hd (fun H1 locs1 hP hD hS => ?_)
  have e : (cells V σ).set q1 (va V dst, .inl (vC V 3, n1, .inr (.inl (va_cpy (σ.2.1 src) (σ.2.1 dst) sp.toNatClampNeg dp.toNatClampNeg n.toNatClampNeg)))) = cells V (sla σ dst (va_cpy (σ.2.1 src) (σ.2.1 dst) sp.toNatClampNeg dp.toNatClampNeg n.toNatClampNeg)) := by
    have e := cell_set (σ' := sla σ dst (va_cpy (σ.2.1 src) (σ.2.1 dst) sp.toNatClampNeg dp.toNatClampNeg n.toNatClampNeg)) hG.2.1 hq1' hi1 (fun j hj => ct_sla hj)
    rw [ct_l hk1] at e
    rw [← e]
    show _ = List.set _ _ (_, Sum.inl (_, _, Sum.inr (Sum.inl (va_up σ.2.1 dst _ dst))))
    rw [va_up_self]
  rw [e] at hP hD
  exact h ls H1 locs1 hl ⟨hP, hD, hG.2.2⟩ hS
theorem map_up (ad : Nat → Nat) (r : Nat → Option Nat) (k : Nat) (v : Option Nat) : va_up (fun j => (r j).map ad) k (v.map ad) = fun j => (va_up r k v j).map ad := by
  funext j
  unfold va_up
  split <;> rfl
theorem sr_cells {V : Vx} {σ : Sg} {A : Nat → Prop} {id n q0 k : Nat} {v : Option Nat} (hD : va_D A (cells V σ)) (hk : kd id = (4, n)) (hi : id ∈ ids V) (hq : (cells V σ)[q0]? = some (va V id, ct V σ id)) : (cells V σ).set q0 (va V id, .inl (vC V 4, n, .inr (.inr (.inr (.inr (va_up (fun j => (σ.2.2 id j).map (va V)) k (v.map (va V)))))))) = cells V (sr σ id k v) := by
  have e := cell_set (σ' := sr σ id k v) hD hq hi (fun j hj => ct_sra hj)
  rw [ct_r hk (by decide) (by decide)] at e
  rw [← e, map_up]
  show _ = List.set _ _ (_, Sum.inl (_, _, Sum.inr (Sum.inr (Sum.inr (Sum.inr (fun j => (va_up σ.2.2 id _ id j).map (va V)))))))
  rw [va_up_self]
theorem msub4 {ci : Nat} : msub ci 4 = true := by simp [msub]
theorem P_astM (C : Cx M cc ret own Ts rm mc ms Qc) {id n ci μ z : Nat} {i : Int32} (hk : kd id = (4, n)) (hi : id ∈ ids (mV M)) (hin : vp_in i n) (hm : isMc ci) (hkm : kd μ = (10 + ci, z)) (him : μ ∈ ids (mV M)) (hd : decode cc pc = .ok (.aastore, 1)) (h : PS M (pc + 1) lv st (sr σ id i.toNatClampNeg (some μ)) kn) : PS M pc lv (.ref μ :: .int i :: .ref id :: st) σ kn := by
  obtain ⟨p, l, e, R, s, m, args, below, meth, c, V, nL, Q⟩ := M
  intro ls H locs hl hG hS
  obtain ⟨hx, hb, hml, hown, hts, hr, hlk, hK, rfl, rfl, hw, hX⟩ := C
  obtain ⟨q0, hq⟩ := cell_at (V := V) (σ := σ) hi
  have hq0 := hq
  rw [ct_r hk (by decide) (by decide)] at hq
  obtain ⟨qm, hqm⟩ := cell_at (V := V) (σ := σ) him
  rw [ct_o hkm] at hqm
  obtain ⟨Cn, T, hcl, hnm, -, -⟩ := mcT hm
  have hany : va_Any "NineMowers$Mower" s H (va V μ) := va_rAny hK hG.1 hqm hcl (fun comp c0 f1 f2 => by
    rw [(hX.2.2 s hX.1).1 ci 4 (mcs_of hm) (by decide) c0 comp (by rw [hnm]; exact f2) f1]
    exact msub4)
  refine va_astqM (D := vD V) hx hb hK hG.1 hG.2.1 hS q0 4 hq rfl hany hin hd (fun H1 locs1 hP hD hS => ?_)
  have e := sr_cells (k := i.toNatClampNeg) (v := some μ) hG.2.1 hk hi hq0
  rw [show some (va V μ) = (some μ).map (va V) from rfl, e] at hP hD
  exact h ls H1 locs1 hl ⟨hP, hD, hG.2.2⟩ hS
theorem P_astN (C : Cx M cc ret own Ts rm mc ms Qc) {id n : Nat} {i : Int32} (hk : kd id = (4, n)) (hi : id ∈ ids (mV M)) (hin : vp_in i n) (hd : decode cc pc = .ok (.aastore, 1)) (h : PS M (pc + 1) lv st (sr σ id i.toNatClampNeg none) kn) : PS M pc lv (.null :: .int i :: .ref id :: st) σ kn := by
  obtain ⟨p, l, e, R, s, m, args, below, meth, c, V, nL, Q⟩ := M
  intro ls H locs hl hG hS
  obtain ⟨hx, hb, hml, hown, hts, hr, hlk, hK, rfl, rfl, hw, hX⟩ := C
  obtain ⟨q0, hq⟩ := cell_at (V := V) (σ := σ) hi
  have hq0 := hq
  rw [ct_r hk (by decide) (by decide)] at hq
  refine va_astqN (D := vD V) hx hb hK hG.1 hG.2.1 hS q0 4 hq rfl hin hd (fun H1 locs1 hP hD hS => ?_)
  have e := sr_cells (k := i.toNatClampNeg) (v := none) hG.2.1 hk hi hq0
  rw [show (none : Option Nat) = (none : Option Nat).map (va V) from rfl, e] at hP hD
  exact h ls H1 locs1 hl ⟨hP, hD, hG.2.2⟩ hS
theorem P_mcopy (C : Cx M cc ret own Ts rm mc ms Qc) {src dst n0 n1 : Nat} {i j : Int32} (hk0 : kd src = (4, n0)) (hi0 : src ∈ ids (mV M)) (hv : vp_in i n0) (hk1 : kd dst = (4, n1)) (hi1 : dst ∈ ids (mV M)) (hw : vp_in j n1) (hm : ∀ μ, gr σ src i.toNatClampNeg = some μ → isW M μ) (hd : decode cc pc = .ok (.aaload, 1)) (hd2 : decode cc (pc + 1) = .ok (.aastore, 1)) (h : PS M (pc + 1 + 1) lv st (sr σ dst j.toNatClampNeg (gr σ src i.toNatClampNeg)) kn) : PS M pc lv (.int i :: .ref src :: .int j :: .ref dst :: st) σ kn := by
  cases hr : gr σ src i.toNatClampNeg with
  | none =>
    rw [hr] at h
    exact P_aldN C hk0 (Or.inl rfl) hi0 hv hr hd (P_astN C hk1 hi1 hw hd2 h)
  | some μ =>
    rw [hr] at h
    obtain ⟨ci, m1, m2, m3⟩ := hm μ hr
    exact P_aldD C hk0 (Or.inl rfl) hi0 hv hr hd (P_astM C hk1 hi1 hw m1 m2 m3 hd2 h)
theorem P_inst (C : Cx M cc ret own Ts rm mc ms Qc) {idx ct ci μ z : Nat} {nm : String} (hw : Cond.classLink own idx nm ∈ Ts) (hn : mnm ct = nm) (hm : isMc ci) (hct : isMc ct) (hkm : kd μ = (10 + ci, z)) (him : μ ∈ ids (mV M)) (hd : decode cc pc = .ok (.instanceof idx, 3)) (h : PS M (pc + 3) lv (.int (if msub ci ct then 1 else 0) :: st) σ kn) : PS M pc lv (.ref μ :: st) σ kn := by
  obtain ⟨p, l, e, R, s, m, args, below, meth, c, V, nL, Q⟩ := M
  intro ls H locs hl hG hS
  obtain ⟨hx, hb, hml, hown, hts, hr, hlk, hK, rfl, rfl, hw2, hX⟩ := C
  obtain ⟨qm, hqm⟩ := cell_at (V := V) (σ := σ) him
  rw [ct_o hkm] at hqm
  obtain ⟨Cn, T, hcl, hnm, -, -⟩ := mcT hm
  obtain ⟨Ct, T2, hcl2, hnm2, -, -⟩ := mcT hct
  obtain ⟨cell, h1, h2, h3⟩ := va_recv hK hG.1 hcl hqm
  obtain ⟨hfc, kC, hkC, hkind⟩ := (hK.1 ct _ hcl2).2
  have hfc : s.vm.findClass nm = some (vD V |>.1 ct) := by rw [← hn, hnm2]; exact hfc
  have ha := (hX.2.2 s hX.1).1 ci ct (mcs_of hm) (mcs_of hct) cell.cls _ (by rw [hnm]; exact h3) (by rw [hn]; exact hfc)
  have k := h ls H locs hl hG hS
  cases hb2 : msub ci ct with
  | true =>
    rw [hb2] at ha k
    intro T hT X
    obtain ⟨vm', X', st⟩ := X.instanceofYes hx hown (hts _ hw) (by rw [hT]; exact h1) h2 hfc ha (g := F0 m pc ls (.ref (va V μ) :: _)) rfl rfl (by rw [hb]; exact hd)
    obtain ⟨t, a1, b1⟩ := k (T.setVm vm') hT X'
    exact ⟨t, st t a1, b1⟩
  | false =>
    rw [hb2] at ha k
    exact va_instNo hx hb hown (hts _ hw) ⟨cell.cls, _, h3, hfc, ha⟩ ⟨cell, h1, h2, h3⟩ hd k
end Rules3
