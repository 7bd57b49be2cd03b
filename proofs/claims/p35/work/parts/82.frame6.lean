/-! what a constructor does, beside what it has made -/
section RulesY
variable {M : Mx} {cc : ByteArray} {ret : Option FieldType} {own : String} {Ts : List Cond} {rm rc0 : Room} {mc ms : Nat} {Qc : Array Value → State → Outcome → State → Prop} {pc : Nat} {lv lv' : List (Nat × Value)} {st : List Value} {ω0 ω : RWd} {kn : Nat × Nat} {h : Nat} {P : List (Nat × va_E)}
theorem Y_putF (C : Cx M cc ret own Ts rm mc ms Qc) (hI : mI M) {idx ci k : Nat} {rn : String} {ty : FieldType} (hf : PF own Ts idx ci k rn ty) {fs : List Value} (b : BT ω0 ω h P) (hc : ω.2 h = .inr (ci, fs)) {v : Value} (hn : narrow ty v = v) (hfit : fits ty v = true) (hl9 : k < fs.length) (hd : decode cc pc = .ok (.putfield idx, 3)) (kk : ∀ ω', BT ω0 ω' h P → ω'.2 h = .inr (ci, fs.set k v) → PR M (pc + 3) lv st ω' kn) : PR M pc lv (v :: .ref h :: st) ω kn := by
  have q := BT_put (e := .inr (ci, fs.set k v)) b
  exact Z_putF C hI hf (BT_h b) hc hn hfit hl9 hd (kk _ q.1 q.2)
theorem Y_put (C : Cx M cc ret own Ts rm mc ms Qc) {idx ci k : Nat} {rn : String} {ty : FieldType} (hf : PA own Ts idx ci k rn ty) {fs : List Value} (b : BT ω0 ω h P) (hc : ω.2 h = .inr (ci, fs)) {v : Value} (hn : narrow ty v = v) (hfit : fits ty v = true) (hl9 : k < fs.length) (hd : decode cc pc = .ok (.putfield idx, 3)) (kk : ∀ ω', BT ω0 ω' h P → ω'.2 h = .inr (ci, fs.set k v) → PR M (pc + 3) lv st ω' kn) : PR M pc lv (v :: .ref h :: st) ω kn := by
  have q := BT_put (e := .inr (ci, fs.set k v)) b
  exact Z_put C hf (BT_h b) hc hn hfit hl9 hd (kk _ q.1 q.2)
theorem Y_putP (C : Cx M cc ret own Ts rm mc ms Qc) {idx ci k i a : Nat} {rn : String} {ty : FieldType} (hf : PA own Ts idx ci k rn ty) {fs : List Value} (b : BT ω0 ω h P) (hi : P[i]? = some (a, .inr (ci, fs))) {v : Value} (hn : narrow ty v = v) (hfit : fits ty v = true) (hl9 : k < fs.length) (hd : decode cc pc = .ok (.putfield idx, 3)) (kk : ∀ ω', BT ω0 ω' h (P.set i (a, .inr (ci, fs.set k v))) → ω'.2 h = ω.2 h → PR M (pc + 3) lv st ω' kn) : PR M pc lv (v :: .ref a :: st) ω kn := by
  obtain ⟨q1, q2, q3, q4⟩ := BT_set (e' := .inr (ci, fs.set k v)) b hi
  exact Z_put C hf q4 q3 hn hfit hl9 hd (kk _ q1 q2)
theorem Y_newa (C : Cx M cc ret own Ts rm mc ms Qc) (hU : UPV (mV M)) (b : BT ω0 ω h P) {atype : ArrayType} {ty : FieldType} {t : Nat} (harr : Cond.arrayClass ty ∈ Ts) (hty : newarray.typeOf atype = ty) (htt : (tysV (mV M))[t]? = some (vC (mV M) t, ty)) (hra : ∀ (U : State) (cA : ClassId), va_RA U cA ty → U.vm.findClass ("[" ++ ty.toString) = some cA) {n : Int32} {N' : Nat} {a0 : vp_A} (ha : ∀ cA : ClassId, vp_cell cA a0 = arrV cA N' (fun _ => defaultValue ty)) (hn : ¬ n < 0) (hN : n.toNatClampNeg = N') (hby : N' * componentBytes ty ≤ 536870912) (hc : kn.1 + 1 ≤ rm.cells) (hs : kn.2 + N' ≤ rm.slots) (hd : decode cc pc = .ok (.newarray atype, 2)) (kk : ∀ q ω', BT ω0 ω' h (P ++ [(q, .inl (vC (mV M) t, a0))]) → ω'.2 h = ω.2 h → PR M (pc + 2) lv (.ref q :: st) ω' (kn.1 + 1, kn.2 + N')) : PR M pc lv (.int n :: st) ω kn :=
  Z_newa C hU harr hty htt hra ha hn hN hby hc hs hd (fun q hq => kk q _ (BT_new b hq).1 (BT_new b hq).2)
theorem Y_newq (C : Cx M cc ret own Ts rm mc ms Qc) (hU : UPV (mV M)) (b : BT ω0 ω h P) {idx t : Nat} {Cn : String} (hAO : ∀ U, vX (mV M) U → va_AO Cn U) (htt : (tysV (mV M))[t]? = some (vC (mV M) t, .object Cn)) (h1 : Cond.classLink own idx Cn ∈ Ts) {n : Int32} {N' : Nat} (hn : ¬ n < 0) (hN : n.toNatClampNeg = N') (hby : N' * 4 ≤ 536870912) (hc : kn.1 + 1 ≤ rm.cells) (hs : kn.2 + N' ≤ rm.slots) (hd : decode cc pc = .ok (.anewarray idx, 3)) (kk : ∀ q ω', BT ω0 ω' h (P ++ [(q, .inl (vC (mV M) t, N', .inr (.inr (.inr (.inr (fun _ => none))))))]) → ω'.2 h = ω.2 h → PR M (pc + 3) lv (.ref q :: st) ω' (kn.1 + 1, kn.2 + N')) : PR M pc lv (.int n :: st) ω kn :=
  Z_newq C hU hAO htt h1 hn hN hby hc hs hd (fun q hq => kk q _ (BT_new b hq).1 (BT_new b hq).2)
theorem Y_iast (C : Cx M cc ret own Ts rm mc ms Qc) {a n k : Nat} {f : Nat → Int32} {i x : Int32} (b : BT ω0 ω h P) (hi : P[k]? = some (a, .inl (vC (mV M) 0, n, .inl f))) (hin : vp_in i n) (hd : decode cc pc = .ok (.iastore, 1)) (kk : ∀ ω', BT ω0 ω' h (P.set k (a, .inl (vC (mV M) 0, n, .inl (upd f i.toNatClampNeg x)))) → ω'.2 h = ω.2 h → PR M (pc + 1) lv st ω' kn) : PR M pc lv (.int x :: .int i :: .ref a :: st) ω kn := by
  obtain ⟨q1, q2, q3, q4⟩ := BT_set (e' := .inl (vC (mV M) 0, n, .inl (upd f i.toNatClampNeg x))) b hi
  exact Z_iast C q4 q3 hin hd (kk _ q1 q2)
theorem Y_aast (C : Cx M cc ret own Ts rm mc ms Qc) {a n t ci v k k2 : Nat} {r : vw_C} {vs : List Value} {f : Nat → Option Nat} {i : Int32} (b : BT ω0 ω h P) (hi : P[k]? = some (a, .inl (vC (mV M) t, n, .inr (.inr (.inr (.inr f)))))) (htt : (tysV (mV M))[t]? = some (vC (mV M) t, .object r.1)) (hj : P[k2]? = some (v, .inr (ci, vs))) (hcl : vwCl[ci]? = some r) (hin : vp_in i n) (hd : decode cc pc = .ok (.aastore, 1)) (kk : ∀ ω', BT ω0 ω' h (P.set k (a, .inl (vC (mV M) t, n, .inr (.inr (.inr (.inr (va_up f i.toNatClampNeg (some v)))))))) → ω'.2 h = ω.2 h → PR M (pc + 1) lv st ω' kn) : PR M pc lv (.ref v :: .int i :: .ref a :: st) ω kn := by
  obtain ⟨q1, q2, q3, q4⟩ := BT_set (e' := .inl (vC (mV M) t, n, .inr (.inr (.inr (.inr (va_up f i.toNatClampNeg (some v))))))) b hi
  have q5 := b.2.2.2 _ (List.mem_of_getElem? hj)
  exact Z_aast C q4 q3 htt q5.1 q5.2.2 hcl hin hd (kk _ q1 q2)
theorem Y_get (C : Cx M cc ret own Ts rm mc ms Qc) {idx ci k : Nat} {rn : String} (hf : FA own Ts idx ci k rn) {fs : List Value} (b : BT ω0 ω h P) (hc : ω.2 h = .inr (ci, fs)) {v : Value} (hv : fs[k]? = some v) (hd : decode cc pc = .ok (.getfield idx, 3)) (kk : PR M (pc + 3) lv (v :: st) ω kn) : PR M pc lv (.ref h :: st) ω kn :=
  Z_get C hf (BT_h b) hc hv hd kk
end RulesY
theorem BT_self {ω0 ω ω' : RWd} {h : Nat} {P : List (Nat × va_E)} (b : BT ω0 ω h P) (c : BT ω ω' h []) : BT ω0 ω' h P := by
  obtain ⟨b1, b2, b3, b4⟩ := b
  obtain ⟨c1, c2, c3, c4⟩ := c
  refine ⟨b1, fun a ha => ⟨(c2 a (b2 a ha).1).1, fun z => ((c2 a (b2 a ha).1).2 z).trans ((b2 a ha).2 z)⟩, b3, fun x hx => ?_⟩
  have h1 := b4 x hx
  exact ⟨(c2 _ h1.1).1, h1.2.1, ((c2 _ h1.1).2 (fun z => h1.2.1 (z ▸ b1))).trans h1.2.2⟩
noncomputable def rmr (d c s : Nat) : Room := { frames := d, cells := c, slots := s, locals := 40 * d }
noncomputable def ints (V : Vx) (n : Nat) : va_E := .inl (vC V 0, n, .inl (fun _ => 0))
theorem ra_p {ty : FieldType} (h : ∀ (U : State) (cA : ClassId), va_RA U cA ty = (U.vm.findClass ("[" ++ ty.toString) = some cA)) (U : State) (cA : ClassId) (q : va_RA U cA ty) : U.vm.findClass ("[" ++ ty.toString) = some cA := by rw [h] at q; exact q
/-- the links to private constructors -/
noncomputable def NWU (U : State) : Prop := va_Nw (.methodLinkNest RX11 11 yX1_init "NineMowers") U ∧ va_Nw (.methodLinkNest RX11 70 yX2_init "NineMowers") U ∧ va_Nw (.methodLinkNest RX11 75 yX9_init "NineMowers") U
theorem NWU_w {s U : State} (hW : s.WarmedH U.vm) (h : NWU s) : NWU U := ⟨va_Nw.warmM hW h.1, va_Nw.warmM hW h.2.1, va_Nw.warmM hW h.2.2⟩
noncomputable def mNW (M : Mx) : Prop := match M with
  | (p, l, e, R, s, m, args, below, meth, c, V, nL, Q) => NWU s
noncomputable abbrev KrN (l : Launch) (V : Vx) (y : MethodName) (ws : List Cond) (rm : Room) (mc ms : Nat) (as : List Value) (ω : RWd) (Qc : Array Value → State → Outcome → State → Prop) : Prop := Met l y ws rm (va_Pc as (fun U => GRR V ω U ∧ NWU U)) Qc mc ms (vA V)
theorem NWU_c {U : State} {g mk a} (h : NWU U) : NWU (U.calling g mk a) := ⟨va_Nw.same rfl rfl h.1, va_Nw.same rfl rfl h.2.1, va_Nw.same rfl rfl h.2.2⟩
theorem GRRblindN {V : Vx} {av : List Value} {ω : RWd} : FrameBlind (va_Pc av (fun U => GRR V ω U ∧ NWU U)) := fun a U g mk q => by
  obtain ⟨q0, ⟨q1, q2, q3, q4, q5⟩, q6⟩ := q
  exact ⟨q0, ⟨q1, va_K.moved (u := U) (U := U.calling g mk a) (Vm.Alike.refl U.vm) q2, q4.1 U _ (Or.inr rfl) (Nat.le_refl _) (fun _ _ _ => rfl) q3, q4, q5⟩, NWU_c q6⟩
theorem KrN_of {l : Launch} {V : Vx} {y : MethodName} {ws ws' : List Cond} {rm : Room} {mc ms : Nat} {cc : ByteArray} {maxL : Nat} {ret : Option FieldType} {own : String} {as : List Value} {ω : RWd} {Qc : Array Value → State → Outcome → State → Prop}
    (hy : plainName y.cls = true) (hw : ws = Cond.code y cc maxL ret :: ws') (ho : y.cls = own) (hlen : (lg_sl as).length ≤ maxL)
    (h : ∀ M : Mx, mL M = l → mV M = V → mN M = maxL → Cx M cc ret own ws rm mc ms Qc → mNW M → (y.name = "<init>" → mI M) → PR M 0 (lv_args 0 as) [] ω (0, 0)) : KrN l V y ws rm mc ms as ω Qc := by
  refine Met.ofW (cc := cc) (maxL := maxL) (ret := ret) hy hw ?_
  intro p e s m args below meth c s1 B hml hv
  obtain ⟨rfl, ⟨hG, hK, hX, hC, hwf⟩, hNW⟩ := hv
  have hown : s.vm.findClass own = some m.cls := by rw [← ho]; exact findClass_of_methodNamed B.named
  have hl := lv_entry as (n := maxL) hlen
  rw [lg_entry_eq]
  exact h (p, l, e, rm, s, m, _, below, meth, c, V, maxL, _) rfl rfl rfl ⟨B.exec, B.bytes, hml, hown, atoms_spec (ws := ws) B.pre, B.returns, B.notSynchronized, hK, rfl, rfl, hwf, hX, hC⟩ hNW (fun hi => (name_of_methodNamed B.named B.method).1.trans hi) _ _ _ hl hG va_S.rf
/-- a private constructor is called -/
noncomputable def KIN (Ts : List Cond) (rm : Room) (y : MethodName) (ws : List Cond) (rc : Room) (n : Nat) : Prop :=
  ∃ (bytes : ByteArray) (maxL : Nat) (ws' : List Cond), GoodIn Ts ws ∧ ws = Cond.code y bytes maxL none :: ws' ∧ Cond.initialized y.cls ∈ Ts ∧ Cond.instanceMethod y ∈ Ts ∧ y.name = "<init>" ∧ (y.cls ≠ "java/lang/invoke/MethodHandle" ∧ y.cls ≠ "java/lang/invoke/VarHandle" ∧ (parseMethodDescriptor y.desc).map (fun d => d.parameters.length) = some n) ∧ (rc.frames + 1 ≤ rm.frames ∧ 8 + (maxL + 11) + rc.locals ≤ rm.locals)
theorem Z_ciN {M : Mx} {cc : ByteArray} {ret : Option FieldType} {own : String} {Ts : List Cond} {rm rc0 : Room} {mc ms : Nat} {Qc : Array Value → State → Outcome → State → Prop} {pc : Nat} {lv : List (Nat × Value)} {st : List Value} {ω : RWd} {kn : Nat × Nat} {Qk : RWd → Prop} {idx n b : Nat} {y : MethodName} {ws : List Cond} {As : List Value} (C : Cx M cc ret own Ts rm mc ms Qc) (k : KIN Ts rm y ws rc0 n) (hl9 : mNW M → match M with | (p, l, e, R, s, m, args, below, meth, c, V, nL, Q) => va_Nw (.methodLinkNest own idx y "NineMowers") s) (hNW : mNW M) (hn : As.length = n) (hst : (st.map fun v => v.category).sum ≤ 8) (hd : decode cc pc = .ok (.invokespecial idx, 3)) (hf : kn.1 + rc0.cells ≤ rm.cells ∧ kn.2 + rc0.slots ≤ rm.slots) (hM : Kr (mL M) (mV M) y ws rc0 rc0.cells rc0.slots (.ref b :: As) ω (QRV (mV M) Qk)) (h : ∀ ω', Qk ω' → PR M (pc + 3) lv st ω' (kn.1 + rc0.cells, kn.2 + rc0.slots)) : PR M pc lv (As.reverse ++ .ref b :: st) ω kn := by
  obtain ⟨p, l, e, R, s, m, args, below, meth, c, V, nL, Q⟩ := M
  intro ls H locs hl hG hS
  have hlk0 := hl9 hNW
  obtain ⟨hx, hb, hml, hown, hts, hr, hlk, hK, rfl, rfl, hw, hX⟩ := C
  obtain ⟨bytes, maxL, ws', k1, k2, k3, k5, k6, k7, k8⟩ := k
  have hst2 : 2 * (F0 m pc ls (As.reverse ++ .ref b :: st)).monitorRoom + (st.map fun v => v.category).sum ≤ 8 := by show 2 * 0 + _ ≤ 8; omega
  exact va_callv (va_runIN (As := As) (b := b) ⟨hx, hb, hml, hown, hts⟩ hM ⟨va_cnB n hts k1 k2 rfl rfl hlk0 (hts _ k3) k7 k8, k6, hts _ k5⟩ ⟨GRRblind, fun U hU hW => ⟨rfl, GRR_mk hU hG hK hw hX hS hW⟩⟩ rfl hn hl.1 rfl hst2 hd hf) hS (fun _ _ h => h) (fun _ h => h) (fun u t H1 locs1 ht hvm hq hB hz hk hS1 => by subst ht; exact h u hq ls _ locs1 hl hB.1 hS1)
