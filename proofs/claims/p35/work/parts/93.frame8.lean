/-! a field comes to be -/
noncomputable abbrev KaN (l : Launch) (V : Vx) (y : MethodName) (ws : List Cond) (rm : Room) (mc ms : Nat) (as : List Value) (σ : Sg) (Qc : Array Value → State → Outcome → State → Prop) : Prop := Met l y ws rm (va_Pc (as.map (cv V)) (fun U => GG V σ U ∧ NWU U)) Qc mc ms (vA V)
theorem KaN_of {l : Launch} {V : Vx} {y : MethodName} {ws ws' : List Cond} {rm : Room} {mc ms : Nat} {cc : ByteArray} {maxL : Nat} {ret : Option FieldType} {own : String} {as : List Value} {σ : Sg} {Qc : Array Value → State → Outcome → State → Prop}
    (hy : plainName y.cls = true) (hw : ws = Cond.code y cc maxL ret :: ws') (ho : y.cls = own) (hlen : (lg_sl (as.map (cv V))).length ≤ maxL)
    (h : ∀ M : Mx, mL M = l → mV M = V → mN M = maxL → Cx M cc ret own ws rm mc ms Qc → mNW M → PS M 0 (lv_args 0 as) [] σ (0, 0)) : KaN l V y ws rm mc ms as σ Qc := by
  refine Met.ofW (cc := cc) (maxL := maxL) (ret := ret) hy hw ?_
  intro p e s m args below meth c s1 B hml hv
  obtain ⟨rfl, ⟨hG, hK, hX⟩, hNW⟩ := hv
  have hown : s.vm.findClass own = some m.cls := by rw [← ho]; exact findClass_of_methodNamed B.named
  have hl := lv_entry (as.map (cv V)) (n := maxL) hlen
  rw [lg_entry_eq]
  rw [lv_args_map] at hl
  exact h (p, l, e, rm, s, m, _, below, meth, c, V, maxL, _) rfl rfl rfl ⟨B.exec, B.bytes, hml, hown, atoms_spec (ws := ws) B.pre, B.returns, B.notSynchronized, hK, rfl, rfl, hG.2.2, hX⟩ hNW _ _ _ hl hG va_S.rf
theorem kd_f {k : Nat} (hk : k < 200) : kd (1000 + 5 * k) = (12, 0) := by
  have h1 : ¬ (1000 + 5 * k) < 175 := by omega
  have h2 : ¬ (1000 + 5 * k) < 1000 := by omega
  have h3 : (1000 + 5 * k) < 2000 := by omega
  have h4 : (1000 + 5 * k - 1000) % 5 = 0 := by omega
  unfold kd
  rw [if_neg h1, if_neg h2, if_pos h3, h4]
  rfl
theorem kdF_3' {f : Nat} (h : kd f = (12, 0)) (hf : 1000 ≤ f) : kd (f + 3) = (0, 10) := by
  rcases kdF h with q | ⟨k, hk, q⟩
  · omega
  · subst q
    clear h
    have h1 : ¬ (1000 + 5 * k + 3) < 175 := by omega
    have h2 : ¬ (1000 + 5 * k + 3) < 1000 := by omega
    have h3 : (1000 + 5 * k + 3) < 2000 := by omega
    have h4 : (1000 + 5 * k + 3 - 1000) % 5 = 3 := by omega
    unfold kd
    rw [if_neg h1, if_neg h2, if_pos h3, h4]
    rfl
noncomputable def fvals : Nat → Int32 := fun j => if j = 0 then 2 else if j = 1 then 1 else if j = 2 then 60 else 0
noncomputable def z0 : Nat → Int32 := fun _ => 0
noncomputable def fnew (σ : Sg) (f : Nat) : Sg := sra (sia (sia (sia (sia (sia σ f fvals) (f + 1) z0) (f + 2) z0) (f + 3) z0) (f + 4) z0) f (fun _ => none)
theorem gi_sra {σ : Sg} {a b j : Nat} {g : Nat → Option Nat} : gi (sra σ a g) b j = gi σ b j := rfl
theorem gr_sra {σ : Sg} {a b j : Nat} {g : Nat → Option Nat} : gr (sra σ a g) b j = if b = a then g j else gr σ b j := by
  show va_up σ.2.2 a g b j = _
  by_cases e : b = a
  · subst e; rw [va_up_self, if_pos rfl]
  · rw [va_up_ne _ _ e, if_neg e]; rfl
theorem gr_sia {σ : Sg} {a b j : Nat} {g : Nat → Int32} : gr (sia σ a g) b j = gr σ b j := rfl
theorem fn_i {σ : Sg} {f b k : Nat} (h : ¬ (f ≤ b ∧ b ≤ f + 4)) : gi (fnew σ f) b k = gi σ b k := by
  unfold fnew
  rw [gi_sra, gi_sia, if_neg (by omega), gi_sia, if_neg (by omega), gi_sia, if_neg (by omega), gi_sia, if_neg (by omega), gi_sia, if_neg (by omega)]
theorem fn_r {σ : Sg} {f b k : Nat} : gr (fnew σ f) b k = if b = f then none else gr σ b k := by
  unfold fnew
  rw [gr_sra, gr_sia, gr_sia, gr_sia, gr_sia, gr_sia]
theorem fn_f {σ : Sg} {f k : Nat} : gi (fnew σ f) f k = fvals k := by
  unfold fnew
  rw [gi_sra, gi_sia, if_neg (by omega), gi_sia, if_neg (by omega), gi_sia, if_neg (by omega), gi_sia, if_neg (by omega), gi_sia, if_pos rfl]
theorem fn_z {σ : Sg} {f o k : Nat} (h1 : 1 ≤ o) (h4 : o ≤ 4) : gi (fnew σ f) (f + o) k = 0 := by
  unfold fnew
  rw [gi_sra]
  rcases (show o = 1 ∨ o = 2 ∨ o = 3 ∨ o = 4 by omega) with rfl | rfl | rfl | rfl
  · rw [gi_sia, if_neg (by omega), gi_sia, if_neg (by omega), gi_sia, if_neg (by omega), gi_sia, if_pos rfl]; rfl
  · rw [gi_sia, if_neg (by omega), gi_sia, if_neg (by omega), gi_sia, if_pos rfl]; rfl
  · rw [gi_sia, if_neg (by omega), gi_sia, if_pos rfl]; rfl
  · rw [gi_sia, if_pos rfl]; rfl
theorem XI_f {V : Vx} {σ : Sg} {f : Nat} (x : XI V σ) (hk : kd f = (12, 0)) (hf : 1000 ≤ f) : XI V (fnew σ f) := by
  obtain ⟨x1, x2, x3, x4⟩ := x
  refine ⟨fun id j lo hi hl => ?_, fun c hc => ?_, fun k g hg => ?_, fun g hg => ?_⟩
  · by_cases e : f ≤ id ∧ id ≤ f + 4
    · obtain ⟨o, ho, rfl⟩ : ∃ o, o ≤ 4 ∧ id = f + o := ⟨id - f, by omega, by omega⟩
      rcases (show o = 0 ∨ o = 1 ∨ o = 2 ∨ o = 3 ∨ o = 4 by omega) with rfl | rfl | rfl | rfl | rfl
      · rw [show gi (fnew σ f) (f + 0) j = fvals j from fn_f]
        by_cases e4 : j = 4
        · subst e4; rw [show lim (f + 0) 4 = _ from lim_F0_4 hk] at hl; cases hl; decide
        · by_cases e8 : j = 8
          · subst e8; rw [show lim (f + 0) 8 = _ from lim_F0_8 hk] at hl; cases hl; decide
          · by_cases e10 : j = 10
            · subst e10; rw [show lim (f + 0) 10 = _ from lim_F0_10 hk] at hl; cases hl; decide
            · by_cases e11 : j = 11
              · subst e11; rw [show lim (f + 0) 11 = _ from lim_F0_11 hk] at hl; cases hl; decide
              · rw [show lim (f + 0) j = _ from lim_F0_n hk j ⟨e4, e8, e10, e11⟩] at hl; cases hl
      · rw [fn_z (by decide) (by decide)]; rw [lim_F1 hk] at hl; cases hl; decide
      · rw [lim_F2 hk] at hl; cases hl
      · rw [lim_F3 hk] at hl; cases hl
      · rw [fn_z (by decide) (by decide)]; rw [lim_F4 hk] at hl; cases hl; decide
    · rw [fn_i e]; exact x1 id j lo hi hl
  · have hc1 : c < 1000 := by rcases hc with rfl | rfl | rfl <;> decide
    obtain ⟨⟨g, g1, g2, g3⟩, g4⟩ := x2 c hc
    refine ⟨⟨g, ?_, g2, g3⟩, fun k μ hμ => g4 k μ ?_⟩
    · rw [fn_r, if_neg (by omega)]; exact g1
    · rw [fn_r, if_neg (by rcases hc with rfl | rfl | rfl <;> omega)] at hμ; exact hμ
  · rw [fn_r, if_neg (by omega)] at hg; exact x3 k g hg
  · rw [fn_r]
    by_cases e : g = f
    · rw [if_pos e]; exact Or.inl rfl
    · rw [if_neg e]; exact x4 g hg
theorem NN_f {σ : Sg} {c f : Nat} (n : NN σ c) (hc : c + 2 < 1000) (hf : 1000 ≤ f) : NN (fnew σ f) c := by
  unfold NN
  rw [fn_i (by omega), fn_i (by omega)]
  refine ⟨fun p hp => ?_, fun m hm => ?_⟩
  · rw [fn_i (by omega)]; exact n.1 p hp
  · rw [fn_r, if_neg (by omega)]; exact n.2 m hm
section RulesF
variable {M : Mx} {cc : ByteArray} {ret : Option FieldType} {own : String} {Ts : List Cond} {rm rc0 : Room} {mc ms : Nat} {Qc : Array Value → State → Outcome → State → Prop} {pc : Nat} {lv lv' : List (Nat × Value)} {st : List Value} {σ : Sg} {kn : Nat × Nat}
theorem sr_cells5 {V : Vx} {σ : Sg} {A : Nat → Prop} {id n q0 k : Nat} {v : Option Nat} (hD : va_D A (cells V σ)) (hk : kd id = (5, n)) (hi : id ∈ ids V) (hq : (cells V σ)[q0]? = some (va V id, ct V σ id)) : (cells V σ).set q0 (va V id, .inl (vC V 5, n, .inr (.inr (.inr (.inr (va_up (fun j => (σ.2.2 id j).map (va V)) k (v.map (va V)))))))) = cells V (sr σ id k v) := by
  have e := cell_set (σ' := sr σ id k v) hD hq hi (fun j hj => ct_sra hj)
  rw [ct_r hk (by decide) (by decide)] at e
  rw [← e, map_up]
  show _ = List.set _ _ (_, Sum.inl (_, _, Sum.inr (Sum.inr (Sum.inr (Sum.inr (fun j => (va_up σ.2.2 id _ id j).map (va V)))))))
  rw [va_up_self]
theorem P_astF (C : Cx M cc ret own Ts rm mc ms Qc) {id n μ : Nat} {i : Int32} (hk : kd id = (5, n)) (hi : id ∈ ids (mV M)) (hin : vp_in i n) (hkm : kd μ = (12, 0)) (him : μ ∈ ids (mV M)) (hd : decode cc pc = .ok (.aastore, 1)) (h : PS M (pc + 1) lv st (sr σ id i.toNatClampNeg (some μ)) kn) : PS M pc lv (.ref μ :: .int i :: .ref id :: st) σ kn := by
  obtain ⟨p, l, e, R, s, m, args, below, meth, c, V, nL, Q⟩ := M
  intro ls H locs hl hG hS
  obtain ⟨hx, hb, hml, hown, hts, hr, hlk, hK, rfl, rfl, hw, hX⟩ := C
  obtain ⟨q0, hq⟩ := cell_at (V := V) (σ := σ) hi
  have hq0 := hq
  rw [ct_r hk (by decide) (by decide)] at hq
  obtain ⟨qm, hqm⟩ := cell_at (V := V) (σ := σ) him
  rw [ct_o (ci := 2) hkm] at hqm
  refine va_astq (D := vD V) hx hb hK hG.1 hG.2.1 hS q0 5 qm 2 hq (r := (RX2, TX2, 12)) rfl hqm rfl hin hd (fun H1 locs1 hP hD hS => ?_)
  have e := sr_cells5 (k := i.toNatClampNeg) (v := some μ) hG.2.1 hk hi hq0
  rw [show some (va V μ) = (some μ).map (va V) from rfl, e] at hP hD
  exact h ls H1 locs1 hl ⟨hP, hD, hG.2.2⟩ hS
noncomputable def fL (f q0 q1 q2 q3 q4 : Nat) : List (Nat × Nat) := [(f, q0), (f + 1, q1), (f + 2, q2), (f + 3, q3), (f + 4, q4)]
theorem P_newF {idx i2 k9 : Nat} (C : Cx M cc ret own Ts rm mc ms Qc) (hU : UPV (mV M)) (hNW : mNW M) (x : XI (mV M) σ) (hk9 : k9 < 200) (hfr : ∀ r, r < 5 → 1000 + 5 * k9 + r ∉ ids (mV M)) (hin2 : ∀ w ∈ u_ws RX2 TX2 12, w ∈ Ts) (h1 : Cond.classLink own idx RX2 ∈ Ts) (h2 : Cond.instantiable RX2 12 ∈ Ts) (h3 : Cond.initialized RX2 ∈ Ts) (k : KIN Ts rm yX2_init wsX2_init (rmr 1 4 130) 0) (ho : own = RX11) (hi2 : i2 = 70) (hst : (st.map fun v => v.category).sum ≤ 7)
    (hd1 : decode cc pc = .ok (.new idx, 3)) (hd2 : decode cc (pc + 3) = .ok (.dup, 1)) (hd3 : decode cc (pc + 4) = .ok (.invokespecial i2, 3)) (hf : kn.1 + 5 ≤ rm.cells ∧ kn.2 + 142 ≤ rm.slots) (hlv : refs_in (mV M) (lv.map (fun q => q.2))) (hsv : refs_in (mV M) st)
    (h : ∀ q0 q1 q2 q3 q4, VR (mV M) (vext (mV M) (fL (1000 + 5 * k9) q0 q1 q2 q3 q4)) → wfd (vext (mV M) (fL (1000 + 5 * k9) q0 q1 q2 q3 q4)) → PS (mset M (vext (mV M) (fL (1000 + 5 * k9) q0 q1 q2 q3 q4))) (pc + 7) lv (.ref (1000 + 5 * k9) :: st) (fnew σ (1000 + 5 * k9)) (kn.1 + 5, kn.2 + 142)) : PS M pc lv st σ kn := by
  subst ho hi2
  obtain ⟨p, l, e, R, s, m, args, below, meth, c, V, nL, Q⟩ := M
  intro ls H locs hl hG hS
  have hrc : rc (rwd V σ) = cells V σ := rwd_rc hG.2.1
  have hGR : GRH V (rwd V σ) H := by unfold GRH; rw [hrc]; exact ⟨hG.1, hG.2.1⟩
  have hw : wfd V := hG.2.2
  have hD0 := hG.2.1
  obtain ⟨f, ef⟩ : ∃ f, f = 1000 + 5 * k9 := ⟨_, rfl⟩
  have hkf : kd f = (12, 0) := by rw [ef]; exact kd_f hk9
  rw [← ef] at h hfr
  have K : PR (p, l, e, R, s, m, args, below, meth, c, V, nL, Q) pc (lv.map (fun q => (q.1, cv V q.2))) (st.map (cv V)) (rwd V σ) kn := by
    have e9 : ((st.map (cv V)).map fun v => v.category).sum ≤ 7 := by
      rw [List.map_map]
      have : (st.map ((fun v => v.category) ∘ cv V)) = st.map (fun v => v.category) := List.map_congr_left (fun v _ => cv_cat V v)
      rw [this]; exact hst
    refine Z_new (fs := [.int 0, .int 0, .int 0, .null, .int 0, .null, .null, .null, .int 0, .null, .int 0, .int 0]) C hU (ci := 2) rfl hin2 tyX2_ok h1 h2 h3 dfX2 (by omega) (by omega) hd1 (fun q hq => ?_)
    refine Z_dup C hd2 rfl ?_
    refine Z_ciN (rc0 := rmr 1 4 130) (Qk := FB V (rnew (rwd V σ) q (.inr (2, [.int 0, .int 0, .int 0, .null, .int 0, .null, .null, .null, .int 0, .null, .int 0, .int 0]))) q) (b := q) (As := []) C k (fun h9 => h9.2.1) hNW rfl (by show (Value.category (.ref q) + ((st.map (cv V)).map fun v => v.category).sum) ≤ 8; have : Value.category (.ref q) = 1 := rfl; omega) hd3 (by show kn.1 + 1 + 4 ≤ _ ∧ kn.2 + 12 + 130 ≤ _; omega) (k_X2_init hU (List.mem_append_right _ (List.mem_singleton.mpr rfl)) (va_up_self _ _ _)) (fun ω1 hB => ?_)
    obtain ⟨q1, q2, q3, q4, b1, c1⟩ := hB
    intro ls H locs hl hG' hS'
    obtain ⟨b1a, b1b, b1c, b1d⟩ := b1
    have hqn : q ∉ (rwd V σ).1 := hq
    have hm : ∀ y ∈ fL f q q1 q2 q3 q4, y.1 ∉ ids V ∧ 1000 ≤ y.1 := fun y hy => by
      have hy : y = (f, q) ∨ y = (f + 1, q1) ∨ y = (f + 2, q2) ∨ y = (f + 3, q3) ∨ y = (f + 4, q4) := by simpa [fL] using hy
      rcases hy with rfl | rfl | rfl | rfl | rfl
      · exact ⟨hfr 0 (by decide), by show 1000 ≤ f; omega⟩
      · exact ⟨hfr 1 (by decide), by show 1000 ≤ f + 1; omega⟩
      · exact ⟨hfr 2 (by decide), by show 1000 ≤ f + 2; omega⟩
      · exact ⟨hfr 3 (by decide), by show 1000 ≤ f + 3; omega⟩
      · exact ⟨hfr 4 (by decide), by show 1000 ≤ f + 4; omega⟩
    have hvr : VR V (vext V (fL f q q1 q2 q3 q4)) := VR_ext hm
    have hnd : ((fL f q q1 q2 q3 q4).map (fun x => x.1)).Nodup := by
      simp [fL, List.nodup_cons]
    have hq' : ∀ y ∈ [q1, q2, q3, q4], y ∈ ω1.1 ∧ y ∉ (rwd V σ).1 ∧ y ≠ q := fun y hy => by
      have hy : y = q1 ∨ y = q2 ∨ y = q3 ∨ y = q4 := by simpa using hy
      have g : ∀ z ∈ [(q1, ints V 100), (q2, ints V 10), (q3, ints V 10), (q4, ints V 10)], z.1 ∈ ω1.1 ∧ z.1 ∉ (rnew (rwd V σ) q (.inr (2, [.int 0, .int 0, .int 0, .null, .int 0, .null, .null, .null, .int 0, .null, .int 0, .int 0]))).1 := fun z hz => ⟨(b1d z hz).1, (b1d z hz).2.1⟩
      have g2 : y ∈ ω1.1 ∧ y ∉ (rnew (rwd V σ) q (.inr (2, [.int 0, .int 0, .int 0, .null, .int 0, .null, .null, .null, .int 0, .null, .int 0, .int 0]))).1 := by
        rcases hy with rfl | rfl | rfl | rfl
        · exact g (y, ints V 100) (by simp)
        · exact g (y, ints V 10) (by simp)
        · exact g (y, ints V 10) (by simp)
        · exact g (y, ints V 10) (by simp)
      refine ⟨g2.1, fun z => g2.2 (List.mem_append_left _ z), fun z => g2.2 (List.mem_append_right _ (by rw [z]; simp))⟩
    have hnd2 : ((fL f q q1 q2 q3 q4).map (fun x => x.2)).Nodup := by
      show [q, q1, q2, q3, q4].Nodup
      rw [List.nodup_cons]
      refine ⟨fun z => (hq' q z).2.2 rfl, ?_⟩
      exact b1c
    have hva : ∀ y ∈ fL f q q1 q2 q3 q4, va (vext V (fL f q q1 q2 q3 q4)) y.1 = y.2 := fun y hy => vext_new hnd hy
    have v1 : va (vext V (fL f q q1 q2 q3 q4)) (f + 1) = q1 := hva (f + 1, q1) (by simp [fL])
    have v2 : va (vext V (fL f q q1 q2 q3 q4)) (f + 2) = q2 := hva (f + 2, q2) (by simp [fL])
    have v3 : va (vext V (fL f q q1 q2 q3 q4)) (f + 3) = q3 := hva (f + 3, q3) (by simp [fL])
    have v4 : va (vext V (fL f q q1 q2 q3 q4)) (f + 4) = q4 := hva (f + 4, q4) (by simp [fL])
    have hwf : wfd (vext V (fL f q q1 q2 q3 q4)) := fun g hg hk => by
      have hL : ∀ o, o < 5 → f + o ∈ ids (vext V (fL f q q1 q2 q3 q4)) := fun o ho => by
        rw [vext_ids]
        refine List.mem_append_right _ ?_
        rcases (show o = 0 ∨ o = 1 ∨ o = 2 ∨ o = 3 ∨ o = 4 by omega) with rfl | rfl | rfl | rfl | rfl <;> simp [fL]
      rw [vext_ids] at hg
      rcases List.mem_append.mp hg with hg | hg
      · obtain ⟨w1, w2, w3, w4⟩ := hw g hg hk
        exact ⟨(hvr.2.1 _ w1).1, (hvr.2.1 _ w2).1, (hvr.2.1 _ w3).1, (hvr.2.1 _ w4).1⟩
      · have hg : g = f ∨ g = f + 1 ∨ g = f + 2 ∨ g = f + 3 ∨ g = f + 4 := by simpa [fL] using hg
        have h5 := kdF_ge hk
        have h6 := kdF_ge hkf
        obtain rfl : g = f := by omega
        exact ⟨hL 1 (by decide), hL 2 (by decide), hL 3 (by decide), hL 4 (by decide)⟩
    have hz : ∀ (o n : Nat) (qo : Nat), 1 ≤ o → o ≤ 4 → kd (f + o) = (0, n) → (qo, ints V n) ∈ [(q1, ints V 100), (q2, ints V 10), (q3, ints V 10), (q4, ints V 10)] → EQV (ω1.2 qo) (ct (vext V (fL f q q1 q2 q3 q4)) (fnew σ f) (f + o)) := fun o n qo o1 o4 hk hm9 => by
      rw [show ω1.2 qo = ints V n from (b1d (qo, ints V n) hm9).2.2, ct_i hk (by decide)]
      have e0 : (fnew σ f).1 (f + o) = fun _ => 0 := funext fun j => fn_z o1 o4
      rw [e0]
      exact EQV_rf
    have hG2 : GH (vext V (fL f q q1 q2 q3 q4)) (fnew σ f) H := by
      refine GH_ext hD0 hG' (fun a ha => ?_) (fun y hy => ?_) hnd hnd2 (fun id hi => ?_) hwf
      · have hne : a ≠ q := fun z => hqn (z ▸ ha)
        have h2 := b1b a (List.mem_append_left _ ha)
        refine ⟨h2.1, (h2.2 hne).trans ?_⟩
        show va_up (rwd V σ).2 q _ a = _
        rw [va_up_ne _ _ hne]
      · have hy' : y = (f, q) ∨ y = (f + 1, q1) ∨ y = (f + 2, q2) ∨ y = (f + 3, q3) ∨ y = (f + 4, q4) := by simpa [fL] using hy
        rcases hy' with rfl | rfl | rfl | rfl | rfl
        · refine ⟨(hm _ hy).1, (b1b q b1a).1, hqn, ?_⟩
          show EQV (ω1.2 q) (ct (vext V (fL f q q1 q2 q3 q4)) (fnew σ f) f)
          rw [c1, ct_o (ci := 2) hkf]
          refine EQV_of (congrArg (fun z => Sum.inr (2, z)) ?_)
          show _ = [Value.int ((fnew σ f).1 f 0), .int ((fnew σ f).1 f 1), .int ((fnew σ f).1 f 2), .ref (va (vext V (fL f q q1 q2 q3 q4)) (f + 1)), .int ((fnew σ f).1 f 4), .ref (va (vext V (fL f q q1 q2 q3 q4)) (f + 2)), .ref (va (vext V (fL f q q1 q2 q3 q4)) (f + 3)), .ref (va (vext V (fL f q q1 q2 q3 q4)) (f + 4)), .int ((fnew σ f).1 f 8), va_rf (((fnew σ f).2.2 f 9).map (va (vext V (fL f q q1 q2 q3 q4)))), .int ((fnew σ f).1 f 10), .int ((fnew σ f).1 f 11)]
          have g : ∀ j, (fnew σ f).1 f j = fvals j := fun j => fn_f
          have g9 : (fnew σ f).2.2 f 9 = none := by
            have := fn_r (σ := σ) (f := f) (b := f) (k := 9)
            rw [if_pos rfl] at this
            exact this
          rw [g, g, g, g, g, g, g, g9, v1, v2, v3, v4]
          rfl
        · exact ⟨(hm _ hy).1, (hq' q1 (by simp)).1, (hq' q1 (by simp)).2.1, hz 1 100 q1 (by decide) (by decide) (kdF_1 hkf) (by simp)⟩
        · exact ⟨(hm _ hy).1, (hq' q2 (by simp)).1, (hq' q2 (by simp)).2.1, hz 2 10 q2 (by decide) (by decide) (kdF_2 hkf) (by simp)⟩
        · exact ⟨(hm _ hy).1, (hq' q3 (by simp)).1, (hq' q3 (by simp)).2.1, hz 3 10 q3 (by decide) (by decide) (kdF_3' hkf (by omega)) (by simp)⟩
        · exact ⟨(hm _ hy).1, (hq' q4 (by simp)).1, (hq' q4 (by simp)).2.1, hz 4 10 q4 (by decide) (by decide) (kdF_4 hkf) (by simp)⟩
      · have hne : ∀ o, o < 5 → id ≠ f + o := fun o ho z => hfr o ho (z ▸ hi)
        have hnn : ¬ (f ≤ id ∧ id ≤ f + 4) := fun z => by
          have := hne (id - f) (by omega)
          omega
        have e1 : (fnew σ f).1 id = σ.1 id := funext fun j => fn_i hnn
        have e3 : (fnew σ f).2.2 id = σ.2.2 id := funext fun j => by
          have := fn_r (σ := σ) (f := f) (b := id) (k := j)
          rw [if_neg (by omega)] at this
          exact this
        exact ct_ext (V := V) (V' := vext V (fL f q q1 q2 q3 q4)) (σ := σ) (σ' := fnew σ f) x hw rfl (fun j hj => (hvr.2.1 j hj).2) hi e1 rfl e3
    have k5 := h q q1 q2 q3 q4 hvr hwf ls H locs (by
      show lv_has ls nL (lv.map (fun z => (z.1, cv (vext V (fL f q q1 q2 q3 q4)) z.2)))
      rw [lmap_vr hvr hlv]; exact hl) hG2 hS'
    have e2 : (Value.ref f :: st).map (cv (vext V (fL f q q1 q2 q3 q4))) = Value.ref q :: st.map (cv V) := by
      rw [List.map_cons, map_vr hvr hsv]
      show Value.ref (va (vext V (fL f q q1 q2 q3 q4)) f) :: _ = _
      rw [show va (vext V (fL f q q1 q2 q3 q4)) f = q from hva (f, q) (by simp [fL])]
    have k5 : W p l e R s m args below meth c H locs (kn.1 + 5) (kn.2 + 142) Q (F0 m (pc + 7) ls ((Value.ref f :: st).map (cv (vext V (fL f q q1 q2 q3 q4))))) := k5
    rw [e2] at k5
    exact k5
  exact K ls H locs hl hGR hS
end RulesF
