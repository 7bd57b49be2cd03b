/-! the same answers: on, done, whets, apart, rest, paused, stop, alone, odds, mean -/
theorem HXC {V : Vx} {σ σ1 : Sg} (q : RELM σ) (hI : INV V σ) (f : MA σ σ1) : ∃ (n : Nat) (S : Stc) (D : Dyn), HCl n 9999 S D σ ∧ HMo n 9999 S D σ1 ∧ SInj S := by
  obtain ⟨n, S, D, hn, hm, cs, cd, hln, -⟩ := HX q.1 q.2 hI
  have hc := q.1.1.1.1
  refine ⟨n, S, D, ⟨hm.1, hm.2.1, hm.2.2.1, hm.2.2.2.1, hm.2.2.2.2.1, cs, cd⟩, HMo_ma f hm, ?_⟩
  have n6 := hm.1.1
  have sr := hm.2.2.2.1
  intro p q' hp hq e
  rw [sr] at hp hq
  refine surj_inj (n := n) (f := S_ln S) (fun m hm' => ?_) hp hq e
  obtain ⟨k, hk, e2⟩ := hI.2.2.2.2.1 m (by omega)
  exact ⟨k, by omega, by rw [hln k (by omega), e2]; exact nI_clamp (by omega)⟩
theorem A_on {V : Vx} {a1 a2 r1 r2 : Int32} {σ σ1 σ2 : Sg} (q : RELM σ) (hI : INV V σ) (f : MA σ σ1) (h1 : F_X11_on a1 a2 σ = (r1, σ1)) (h2 : F_X12_on a1 a2 σ1 = (r2, σ2)) : r1 = r2 := by
  obtain ⟨n, S, D, c, m, si⟩ := HXC q hI f
  have A := Rt_of (onC (a1 := a1) (a2 := a2) c si) h1
  have B := Rt_of (onM (a1 := a1) (a2 := a2) m) h2
  exact i_eq (A.trans B.1.symm)
theorem A_done {V : Vx} {r1 r2 : Int32} {σ σ1 σ2 : Sg} (q : RELM σ) (hI : INV V σ) (f : MA σ σ1) (h1 : F_X11_done σ = (r1, σ1)) (h2 : F_X12_done σ1 = (r2, σ2)) : r1 = r2 := by
  obtain ⟨n, S, D, c, m, si⟩ := HXC q hI f
  have A := Rt_of (doneC c) h1
  have B := Rt_of (doneM m) h2
  exact i_eq (A.trans B.1.symm)
theorem A_whets {V : Vx} {a1 a2 r1 r2 : Int32} {σ σ1 σ2 : Sg} (q : RELM σ) (hI : INV V σ) (f : MA σ σ1) (h1 : F_X11_whets a1 a2 σ = (r1, σ1)) (h2 : F_X12_whets a1 a2 σ1 = (r2, σ2)) : r1 = r2 := by
  obtain ⟨n, S, D, c, m, si⟩ := HXC q hI f
  have A := Rt_of (whetsC (a1 := a1) (a2 := a2) c) h1
  have B := Rt_of (whetsM (a1 := a1) (a2 := a2) m) h2
  exact i_eq (A.trans B.1.symm)
theorem A_apart {V : Vx} {a1 a2 r1 r2 : Int32} {σ σ1 σ2 : Sg} (q : RELM σ) (hI : INV V σ) (f : MA σ σ1) (h1 : F_X11_apart a1 a2 σ = (r1, σ1)) (h2 : F_X12_apart a1 a2 σ1 = (r2, σ2)) : r1 = r2 := by
  obtain ⟨n, S, D, c, m, si⟩ := HXC q hI f
  have A := Rt_of (apartC (a1 := a1) (a2 := a2) c) h1
  have B := Rt_of (apartM (a1 := a1) (a2 := a2) m ((f 74 (by decide) (by decide) 28).trans q.2.2.2.2.2.2.1)) h2
  exact i_eq (A.trans B.1.symm)
theorem A_rest {V : Vx} {a1 a2 r1 r2 : Int32} {σ σ1 σ2 : Sg} (q : RELM σ) (hI : INV V σ) (f : MA σ σ1) (h1 : F_X11_rest a1 a2 σ = (r1, σ1)) (h2 : F_X12_rest a1 a2 σ1 = (r2, σ2)) : r1 = r2 := by
  obtain ⟨n, S, D, c, m, si⟩ := HXC q hI f
  have A := Rt_of (restCa (a1 := a1) (a2 := a2) c) h1
  have B := Rt_of (restM (a1 := a1) (a2 := a2) m) h2
  exact i_eq (A.trans B.1.symm)
theorem A_paused {V : Vx} {a1 a2 r1 r2 : Int32} {σ σ1 σ2 : Sg} (q : RELM σ) (hI : INV V σ) (f : MA σ σ1) (h1 : F_X11_paused a1 a2 σ = (r1, σ1)) (h2 : F_X12_paused a1 a2 σ1 = (r2, σ2)) : r1 = r2 := by
  obtain ⟨n, S, D, c, m, si⟩ := HXC q hI f
  have A := Rt_of (pausedC (a1 := a1) (a2 := a2) c) h1
  have B := Rt_of (pausedM (a1 := a1) (a2 := a2) m) h2
  exact i_eq (A.trans B.1.symm)
theorem A_alone {V : Vx} {a1 r1 r2 : Int32} {σ σ1 σ2 : Sg} (q : RELM σ) (hI : INV V σ) (f : MA σ σ1) (h1 : F_X11_alone a1 σ = (r1, σ1)) (h2 : F_X12_alone a1 σ1 = (r2, σ2)) : r1 = r2 := by
  obtain ⟨n, S, D, c, m, si⟩ := HXC q hI f
  have A := Rt_of (aloneC (a1 := a1) c) h1
  have B := Rt_of (aloneM (a1 := a1) m) h2
  exact i_eq (A.trans B.1.symm)
theorem A_stop {V : Vx} {a1 a2 a3 a4 r1 r2 : Int32} {σ σ1 σ2 : Sg} (q : RELM σ) (hI : INV V σ) (f : MA σ σ1) (h1 : F_X11_stop a1 a2 a3 a4 σ = (r1, σ1)) (h2 : F_X12_stop a1 a2 a3 a4 σ1 = (r2, σ2)) : r1 = r2 := by
  obtain ⟨n, S, D, c, m, si⟩ := HXC q hI f
  have A := Rt_of (stopC (a1 := a1) (a2 := a2) (a3 := a3) (a4 := a4) c) h1
  have B := Rt_of (stopM (a1 := a1) (a2 := a2) (a3 := a3) (a4 := a4) m) h2
  rcases A with ⟨m1, x1, j1, p1, p2, p3, p4, p5, p6, p7, u, v, u1, v1, e⟩ | ⟨p1, p2, e⟩ | ⟨p1, e⟩ <;> rcases B.1 with ⟨m2, x2, j2, s1, s2, s3, s4, s5, s6, s7, u', v', u2, v2, e'⟩ | ⟨s1, s2, e'⟩ | ⟨s1, e'⟩
  · obtain rfl : m1 = m2 := by omega
    obtain rfl : x1 = x2 := by omega
    obtain rfl : j1 = j2 := by omega
    rw [e, e', i_eq (u1.trans u2.symm), i_eq (v1.trans v2.symm)]
  · exfalso; omega
  · exfalso; omega
  · exfalso; omega
  · rw [e, e']
  · exact absurd p1 s1
  · exfalso; omega
  · exact absurd s1 p1
  · rw [e, e']
theorem A_mean {V : Vx} {a1 a2 : Int32} {r1 r2 : Int64} {σ σ1 σ2 : Sg} (q : RELM σ) (hI : INV V σ) (f : MA σ σ1) (h1 : F_X11_mean a1 a2 σ = (r1, σ1)) (h2 : F_X12_mean a1 a2 σ1 = (r2, σ2)) : r1 = r2 := by
  obtain ⟨n, S, D, c, m, si⟩ := HXC q hI f
  have A := Rt_of (meanC (a1 := a1) (a2 := a2) c) h1
  have B := Rt_of (meanM (a1 := a1) (a2 := a2) m) h2
  rcases A with ⟨j1, p1, p2, p3, p4, u, g, u1, g1, e⟩ | ⟨p1, e⟩ <;> rcases B.1 with ⟨j2, s1, s2, s3, s4, u', g', u2, g2, e'⟩ | ⟨s1, e'⟩
  · obtain rfl : j1 = j2 := by omega
    rw [e, e', i_eq (u1.trans u2.symm), i_eq (g1.trans g2.symm)]
  · exact absurd ⟨by omega, p3, p4⟩ s1
  · exact absurd ⟨by omega, s3, s4⟩ p1
  · rw [e, e']
theorem A_odds {V : Vx} {a1 a2 a3 : Int32} {r1 r2 : Int64} {σ σ1 σ2 : Sg} (q : RELM σ) (hI : INV V σ) (f : MA σ σ1) (h1 : F_X11_odds a1 a2 a3 σ = (r1, σ1)) (h2 : F_X12_odds a1 a2 a3 σ1 = (r2, σ2)) : r1 = r2 := by
  obtain ⟨n, S, D, c, m, si⟩ := HXC q hI f
  have A := Rt_of (oddsC (a1 := a1) (a2 := a2) (a3 := a3) c si) h1
  have B := Rt_of (oddsM (a1 := a1) (a2 := a2) (a3 := a3) m) h2
  rcases A with ⟨m1, j1, p0, p5, p1, p2, p3, u, g, u1, g1, e⟩ | ⟨p1, e⟩ <;> rcases B.1 with ⟨m2, j2, s0, s5, s1, s2, s3, u', g', u2, g2, e'⟩ | ⟨s1, e'⟩
  · obtain rfl : m1 = m2 := by omega
    obtain rfl : j1 = j2 := by omega
    rw [e, e', i_eq (u1.trans u2.symm), i_eq (g1.trans g2.symm)]
  · exact absurd ⟨by omega, by omega, p3⟩ s1
  · exact absurd ⟨by omega, by omega, s3⟩ p1
  · rw [e, e']
