/-! the state of a system in pure words, and that the class holds it -/
abbrev Bch : Type := Nat → Nat → Int32
/-- texts (how many, what they say), lookers (how many, kinds, numbers), the beach, its image, the tape (size, bytes), sheets (sorts, sizes, items) -/
abbrev Sst : Type := Nat × TVt × Nat × (Nat → Nat) × (Nat → Int32) × Bch × Option Bch × Nat × (Nat → Int32) × (Nat → Int32) × (Nat → Nat) × (Nat → Nat → Int32)
abbrev sC (E : Sst) : Nat := E.1
abbrev sT (E : Sst) : TVt := E.2.1
abbrev sM (E : Sst) : Nat := E.2.2.1
abbrev sK (E : Sst) : Nat → Nat := E.2.2.2.1
abbrev sN (E : Sst) : Nat → Int32 := E.2.2.2.2.1
abbrev sB (E : Sst) : Bch := E.2.2.2.2.2.1
abbrev sO (E : Sst) : Option Bch := E.2.2.2.2.2.2.1
abbrev sZ (E : Sst) : Nat := E.2.2.2.2.2.2.2.1
abbrev sY (E : Sst) : Nat → Int32 := E.2.2.2.2.2.2.2.2.1
abbrev sS (E : Sst) : Nat → Int32 := E.2.2.2.2.2.2.2.2.2.1
abbrev sL (E : Sst) : Nat → Nat := E.2.2.2.2.2.2.2.2.2.2.1
abbrev sI' (E : Sst) : Nat → Nat → Int32 := E.2.2.2.2.2.2.2.2.2.2.2
abbrev setB (E : Sst) (b : Bch) : Sst := (E.1, E.2.1, E.2.2.1, E.2.2.2.1, E.2.2.2.2.1, b, E.2.2.2.2.2.2)
abbrev setO (E : Sst) (o : Option Bch) : Sst := (E.1, E.2.1, E.2.2.1, E.2.2.2.1, E.2.2.2.2.1, E.2.2.2.2.2.1, o, E.2.2.2.2.2.2.2)
abbrev setY (E : Sst) (z : Nat) (y : Nat → Int32) : Sst := (E.1, E.2.1, E.2.2.1, E.2.2.2.1, E.2.2.2.2.1, E.2.2.2.2.2.1, E.2.2.2.2.2.2.1, z, y, E.2.2.2.2.2.2.2.2.2)
abbrev setS (E : Sst) (s : Nat → Int32) (l : Nat → Nat) (i : Nat → Nat → Int32) : Sst := (E.1, E.2.1, E.2.2.1, E.2.2.2.1, E.2.2.2.2.1, E.2.2.2.2.2.1, E.2.2.2.2.2.2.1, E.2.2.2.2.2.2.2.1, E.2.2.2.2.2.2.2.2.1, s, l, i)
abbrev setP (E : Sst) (m : Nat) (k : Nat → Nat) (n : Nat → Int32) : Sst := (E.1, E.2.1, m, k, n, E.2.2.2.2.2)
abbrev setT (E : Sst) (c : Nat) (t : TVt) : Sst := (c, t, E.2.2)
/-- what is right of a state by itself -/
def EOK (E : Sst) : Prop := sC E ≤ 6 ∧ sM E ≤ 6 ∧ (∀ i, i < sM E → sK E i < 6 ∧ inR (sN E i) 9) ∧ BeOK (sB E) (sC E) ∧ (∀ b, sO E = some b → BeOK b (sC E)) ∧ sZ E ≤ 160 ∧ (∀ i, i < sZ E → inR (sY E i) 255) ∧ ∀ i, i < 4 → sL E i ≤ 40 ∧ (sS E i = -1 ∨ sS E i = 0 ∨ sS E i = 1 ∨ sS E i = 2)
def KpC (h : AHp) (o : Option Bch) : Prop := (o = none ∧ hpI h 0 3 = 0) ∨ (o = some (bv h 7) ∧ hpI h 0 3 = 1)
def TpC (h : AHp) (z : Nat) (y : Nat → Int32) : Prop := hpI h 11 1 = nI z ∧ ∀ i, i < z → hpI h 12 i = y i
def StC (h : AHp) (E : Sst) : Prop := ∀ i, i < 4 → hpI h (30 + 2 * i) 1 = sS E i ∧ hpI h (30 + 2 * i) 2 = nI (sL E i) ∧ ∀ k, k < sL E i → hpI h (30 + 2 * i + 1) k = sI' E i k
/-- the class' cells hold E -/
def CV (h : AHp) (E : Sst) : Prop := ShC h ∧ RuOK h (sC E) (sT E) ∧ CaOK h (sC E) (sT E) ∧ (∃ e, Pty h (sM E) e (sK E) (sN E)) ∧ bv h 1 = sB E ∧ KpC h (sO E) ∧ TpC h (sZ E) (sY E) ∧ StC h E ∧ EOK E
def FrQ (h : AHp) (σ : Nat → Nat → Int32) : Prop := ∀ a k, ¬ (1 ≤ a ∧ a ≤ 6) → ¬ (20 ≤ a ∧ a ≤ 28) → ¬ (a = 17 ∧ (k = 5 ∨ 10 ≤ k)) → ¬ (a = 0 ∧ 10 ≤ k) → σ a k = hpI h a k
/-- what is not the class' -/
def K38 (h : AHp) (σ : Nat → Nat → Int32) : Prop := ∀ a, 38 ≤ a → σ a = hpI h a
theorem FrQ.k {h : AHp} {σ : Nat → Nat → Int32} (hf : FrQ h σ) : K38 h σ := fun a ha => funext fun k => hf a k (by omega) (by omega) (by omega) (by omega)
theorem FrP.q {h : AHp} {σ : Nat → Nat → Int32} (hf : FrP h σ) : FrQ h σ := fun a k a1 a2 a3 a4 => hf a k (by omega) a2 a3 a4
theorem FrP.k {h : AHp} {σ : Nat → Nat → Int32} (hf : FrP h σ) : K38 h σ := hf.q.k
theorem CV.q {h : AHp} {E : Sst} (hc : CV h E) {σ : Nat → Nat → Int32} (hf : FrQ h σ) (hca : CaOK (σ, h.2) (sC E) (sT E)) {b : Bch} (hb : bv (σ, h.2) 1 = b) (hbe : BeOK b (sC E)) : CV (σ, h.2) (setB E b) := by
  obtain ⟨h1, h2, h3, ⟨e, h4⟩, h5, h6, h7, h8, h9⟩ := hc
  have e7 : bv (σ, h.2) 7 = bv h 7 := bv_ext (fun i k ho => by
    have : i ≤ 2 := by rcases ho with ⟨e, -⟩ | ⟨e, -⟩ <;> omega
    exact hf (7 + i) k (by omega) (by omega) (by omega) (by omega))
  refine ⟨h1, h2.fr (hf 17 2 (by omega) (by omega) (by omega) (by omega)) (funext fun k => hf 18 k (by omega) (by omega) (by omega) (by omega)) (funext fun k => hf 19 k (by omega) (by omega) (by omega) (by omega)), hca, ⟨e, h4.fr h1 (hf 0 5 (by omega) (by omega) (by omega) (by omega)) (fun a ha => hf a 0 (by omega) (by omega) (by omega) (by omega))⟩, hb, ?_, ⟨(hf 11 1 (by omega) (by omega) (by omega) (by omega)).trans h7.1, fun i hi => (hf 12 i (by omega) (by omega) (by omega) (by omega)).trans (h7.2 i hi)⟩, fun i hi => ?_, ⟨h9.1, h9.2.1, h9.2.2.1, hbe, h9.2.2.2.2⟩⟩
  · have e03 : σ 0 3 = hpI h 0 3 := hf 0 3 (by omega) (by omega) (by omega) (by omega)
    rcases h6 with ⟨z1, z2⟩ | ⟨z1, z2⟩
    · exact Or.inl ⟨z1, e03.trans z2⟩
    · exact Or.inr ⟨by rw [e7]; exact z1, e03.trans z2⟩
  · obtain ⟨g1, g2, g3⟩ := h8 i hi
    exact ⟨(hf _ 1 (by omega) (by omega) (by omega) (by omega)).trans g1, (hf _ 2 (by omega) (by omega) (by omega) (by omega)).trans g2, fun k hk => (hf _ k (by omega) (by omega) (by omega) (by omega)).trans (g3 k hk)⟩
theorem CV.p {h : AHp} {E : Sst} (hc : CV h E) {σ : Nat → Nat → Int32} (hf : FrP h σ) (hca : CaOK (σ, h.2) (sC E) (sT E)) : CV (σ, h.2) E := by
  have hb : bv (σ, h.2) 1 = sB E := (bv_ext (fun i k ho => by
    have : i ≤ 2 := by rcases ho with ⟨e, -⟩ | ⟨e, -⟩ <;> omega
    exact hf (1 + i) k (by omega) (by omega) (by omega) (by omega))).trans hc.2.2.2.2.1
  exact hc.q hf.q hca hb hc.2.2.2.2.2.2.2.2.2.2.2.1
theorem CV.same {h : AHp} {E : Sst} (hc : CV h E) : CV (h.1, h.2) E := hc
section CVA
variable {h : AHp} {E : Sst}
theorem CV.sh (hc : CV h E) : ShC h := hc.1
theorem CV.ru (hc : CV h E) : RuOK h (sC E) (sT E) := hc.2.1
theorem CV.ca (hc : CV h E) : CaOK h (sC E) (sT E) := hc.2.2.1
theorem CV.pt (hc : CV h E) : ∃ e, Pty h (sM E) e (sK E) (sN E) := hc.2.2.2.1
theorem CV.b (hc : CV h E) : bv h 1 = sB E := hc.2.2.2.2.1
theorem CV.kp (hc : CV h E) : KpC h (sO E) := hc.2.2.2.2.2.1
theorem CV.tp (hc : CV h E) : TpC h (sZ E) (sY E) := hc.2.2.2.2.2.2.1
theorem CV.st (hc : CV h E) : StC h E := hc.2.2.2.2.2.2.2.1
theorem CV.ok (hc : CV h E) : EOK E := hc.2.2.2.2.2.2.2.2
theorem CV.be (hc : CV h E) : BeOK (bv h 1) (sC E) := by rw [hc.b]; exact hc.ok.2.2.2.1
theorem CV.nu (hc : CV h E) : ∀ i, i < sM E → inR (sN E i) 9 := fun i hi => (hc.ok.2.2.1 i hi).2
end CVA
/-- one number of the beach is another -/
theorem CV.up1 {h : AHp} {E : Sst} (hc : CV h E) {i k : Nat} {v : Int32} (ho : okI i k) (hbe : BeOK (up2 (sB E) i k v) (sC E)) : CV (stI h (1 + i) k v) (setB E (up2 (sB E) i k v)) := by
  have hi : i ≤ 2 := by rcases ho with ⟨e, -⟩ | ⟨e, -⟩ <;> omega
  refine hc.q (σ := (stI h (1 + i) k v).1) (fun a l a1 a2 a3 a4 => by show hpI (stI _ _ _ _) _ _ = _; rw [hpI_st, if_neg (by omega)]) (hc.ca.eq (fun a a1 a2 l _ => by show hpI (stI _ _ _ _) _ _ = _; rw [hpI_st, if_neg (by omega)])) ?_ hbe
  show bv (stI h (1 + i) k v) 1 = _
  rw [bv_up (Or.inl rfl) ho, hc.b]
theorem inR.of {x : Int32} {n : Nat} (hn : n < 2000000) (h0 : 0 ≤ x) (h1 : x ≤ nI n) : inR x n := by
  have a := leI.mp h0
  have b := leI.mp h1
  have e : (0 : Int32).toInt = 0 := rfl
  rw [nI_toInt (by omega)] at b
  exact ⟨by omega, b⟩
theorem BeOK.o {b : Bch} {c : Nat} (h : BeOK b c) {q : Nat} {v : Int32} (hv : inR v 999999) : BeOK (up2 b 1 q v) c := by
  obtain ⟨h1, h2, h3, h4, h5, r, h6, h7⟩ := h
  refine ⟨fun k hk => ?_, fun k hk => by rw [up2_ne (by omega)]; exact h2 k hk, by rw [up2_ne (by omega)]; exact h3, by rw [up2_ne (by omega)]; exact h4, by rw [up2_ne (by omega)]; exact h5, r, h6, by rw [up2_ne (by omega)]; exact h7⟩
  by_cases e : k = q
  · rw [e, up2_at]; exact hv
  · rw [up2_ne (fun z => e z.2)]; exact h1 k hk
theorem BeOK.t {b : Bch} {c : Nat} (h : BeOK b c) {q : Nat} {v : Int32} (hv : inR v 99) : BeOK (up2 b 2 q v) c := by
  obtain ⟨h1, h2, h3, h4, h5, r, h6, h7⟩ := h
  refine ⟨fun k hk => by rw [up2_ne (by omega)]; exact h1 k hk, fun k hk => ?_, by rw [up2_ne (by omega)]; exact h3, by rw [up2_ne (by omega)]; exact h4, by rw [up2_ne (by omega)]; exact h5, r, h6, by rw [up2_ne (by omega)]; exact h7⟩
  by_cases e : k = q
  · rw [e, up2_at]; exact hv
  · rw [up2_ne (fun z => e z.2)]; exact h2 k hk
theorem BeOK.f {b : Bch} {c : Nat} (h : BeOK b c) {j : Nat} {v : Int32} (hj : j = 2 ∧ inR v 999999 ∨ j = 3 ∧ inR v 23 ∨ j = 4 ∧ inR v 59 ∨ j = 5 ∧ ∃ r, r < c ∧ v = nI r) : BeOK (up2 b 0 j v) c := by
  obtain ⟨h1, h2, h3, h4, h5, r, h6, h7⟩ := h
  refine ⟨fun k hk => by rw [up2_ne (by omega)]; exact h1 k hk, fun k hk => by rw [up2_ne (by omega)]; exact h2 k hk, ?_, ?_, ?_, ?_⟩
  · rcases hj with ⟨rfl, z⟩ | ⟨rfl, z⟩ | ⟨rfl, z⟩ | ⟨rfl, z⟩
    · rw [up2_at]; exact z
    · rw [up2_ne (by omega)]; exact h3
    · rw [up2_ne (by omega)]; exact h3
    · rw [up2_ne (by omega)]; exact h3
  · rcases hj with ⟨rfl, z⟩ | ⟨rfl, z⟩ | ⟨rfl, z⟩ | ⟨rfl, z⟩
    · rw [up2_ne (by omega)]; exact h4
    · rw [up2_at]; exact z
    · rw [up2_ne (by omega)]; exact h4
    · rw [up2_ne (by omega)]; exact h4
  · rcases hj with ⟨rfl, z⟩ | ⟨rfl, z⟩ | ⟨rfl, z⟩ | ⟨rfl, z⟩
    · rw [up2_ne (by omega)]; exact h5
    · rw [up2_ne (by omega)]; exact h5
    · rw [up2_at]; exact z
    · rw [up2_ne (by omega)]; exact h5
  · rcases hj with ⟨rfl, z⟩ | ⟨rfl, z⟩ | ⟨rfl, z⟩ | ⟨rfl, z⟩
    · exact ⟨r, h6, by rw [up2_ne (by omega)]; exact h7⟩
    · exact ⟨r, h6, by rw [up2_ne (by omega)]; exact h7⟩
    · exact ⟨r, h6, by rw [up2_ne (by omega)]; exact h7⟩
    · obtain ⟨w, hw, e⟩ := z
      exact ⟨w, hw, by rw [up2_at]; exact e⟩
/-- what set answers, and the beach behind it -/
def setI (b : Bch) (what of v : Int32) : Int32 × Bch :=
  if what = 0 then (if isC of ∧ (0 ≤ v ∧ v ≤ 999999) then (b 1 (tn of), up2 b 1 (tn of) v) else (-2, b))
  else if what = 1 then (if isC of ∧ (0 ≤ v ∧ v ≤ 99) then (b 2 (tn of), up2 b 2 (tn of) v) else (-2, b))
  else if what = 2 then (if 0 ≤ v ∧ v ≤ 999999 then (b 0 2, up2 b 0 2 v) else (-2, b))
  else if what = 3 then (if 0 ≤ v ∧ v ≤ 23 then (b 0 3, up2 b 0 3 v) else (-2, b))
  else if what = 4 then (if 0 ≤ v ∧ v ≤ 59 then (b 0 4, up2 b 0 4 v) else (-2, b))
  else (-2, b)
theorem qX11_changeOdds_0 : Dq cX11_changeOdds 0 (.iload_n 1) 1 1 := ⟨by decide +kernel, rfl⟩
theorem qX11_changeOdds_1 : Dq cX11_changeOdds 1 (.invokestatic 107) 3 4 := ⟨by decide +kernel, rfl⟩
theorem qX11_changeOdds_4 : Dq cX11_changeOdds 4 (.ifCond .eq 13) 3 7 := ⟨by decide +kernel, rfl⟩
theorem qX11_changeOdds_7 : Dq cX11_changeOdds 7 (.iload_n 2) 1 8 := ⟨by decide +kernel, rfl⟩
theorem qX11_changeOdds_8 : Dq cX11_changeOdds 8 (.iconst 0) 1 9 := ⟨by decide +kernel, rfl⟩
theorem qX11_changeOdds_9 : Dq cX11_changeOdds 9 (.ldc 202) 2 11 := ⟨by decide +kernel, rfl⟩
theorem qX11_changeOdds_11 : Dq cX11_changeOdds 11 (.invokestatic 110) 3 14 := ⟨by decide +kernel, rfl⟩
theorem qX11_changeOdds_14 : Dq cX11_changeOdds 14 (.ifCond .ne 6) 3 17 := ⟨by decide +kernel, rfl⟩
theorem qX11_changeOdds_17 : Dq cX11_changeOdds 17 (.bipush (-2)) 2 19 := ⟨by decide +kernel, rfl⟩
theorem qX11_changeOdds_19 : Dq cX11_changeOdds 19 (.ireturn) 1 20 := ⟨by decide +kernel, rfl⟩
theorem qX11_changeOdds_20 : Dq cX11_changeOdds 20 (.aload_n 0) 1 21 := ⟨by decide +kernel, rfl⟩
theorem qX11_changeOdds_21 : Dq cX11_changeOdds 21 (.getfield 10) 3 24 := ⟨by decide +kernel, rfl⟩
theorem qX11_changeOdds_24 : Dq cX11_changeOdds 24 (.getfield 342) 3 27 := ⟨by decide +kernel, rfl⟩
theorem qX11_changeOdds_27 : Dq cX11_changeOdds 27 (.iload_n 1) 1 28 := ⟨by decide +kernel, rfl⟩
theorem qX11_changeOdds_28 : Dq cX11_changeOdds 28 (.iaload) 1 29 := ⟨by decide +kernel, rfl⟩
theorem qX11_changeOdds_29 : Dq cX11_changeOdds 29 (.istore_n 3) 1 30 := ⟨by decide +kernel, rfl⟩
theorem qX11_changeOdds_30 : Dq cX11_changeOdds 30 (.aload_n 0) 1 31 := ⟨by decide +kernel, rfl⟩
theorem qX11_changeOdds_31 : Dq cX11_changeOdds 31 (.getfield 10) 3 34 := ⟨by decide +kernel, rfl⟩
theorem qX11_changeOdds_34 : Dq cX11_changeOdds 34 (.getfield 342) 3 37 := ⟨by decide +kernel, rfl⟩
theorem qX11_changeOdds_37 : Dq cX11_changeOdds 37 (.iload_n 1) 1 38 := ⟨by decide +kernel, rfl⟩
theorem qX11_changeOdds_38 : Dq cX11_changeOdds 38 (.iload_n 2) 1 39 := ⟨by decide +kernel, rfl⟩
theorem qX11_changeOdds_39 : Dq cX11_changeOdds 39 (.iastore) 1 40 := ⟨by decide +kernel, rfl⟩
theorem qX11_changeOdds_40 : Dq cX11_changeOdds 40 (.iload_n 3) 1 41 := ⟨by decide +kernel, rfl⟩
theorem qX11_changeOdds_41 : Dq cX11_changeOdds 41 (.ireturn) 1 42 := ⟨by decide +kernel, rfl⟩
set_option maxRecDepth 100000 in
set_option maxHeartbeats 4000000 in
theorem c_changeOdds {G : Glb} {h : AHp} (hs : ShC h) (of v : Int32) : CP G m_X11_changeOdds 3 0 0 [.ref 0, .int of, .int v] h (fun r h' => ((isC of ∧ (0 ≤ v ∧ v ≤ 999999)) ∧ r = some (.int (hpI h 2 (tn of))) ∧ stI h 2 (tn of) v = h') ∨ (¬ (isC of ∧ (0 ≤ v ∧ v ≤ 999999)) ∧ r = some (.int (-2)) ∧ h = h')) := by
  suffices key : ∀ P : Option Value → AHp → Prop, (∀ r h', (((isC of ∧ (0 ≤ v ∧ v ≤ 999999)) ∧ r = some (.int (hpI h 2 (tn of))) ∧ stI h 2 (tn of) v = h') ∨ (¬ (isC of ∧ (0 ≤ v ∧ v ≤ 999999)) ∧ r = some (.int (-2)) ∧ h = h')) → P r h') → CP G m_X11_changeOdds 3 0 0 [.ref 0, .int of, .int v] h P from key _ (fun _ _ z => z)
  intro P hP
  refine CP.of (by decide +kernel) (Nat.le_of_ble_eq_true rfl) fun X hX hR hnm => ?_
  show V X G 4 0 0 _ 0 [some (.ref 0), some (.int of), some (.int v), none] [] h
  refine v_iload_n hX rfl qX11_changeOdds_0 ?_
  refine v_callSq hX hR k_X11_107 (c_isCell _) rfl (Nat.le_of_ble_eq_true rfl) rfl (Nat.le_of_ble_eq_true rfl) ⟨Nat.le_of_ble_eq_true rfl, Nat.le_of_ble_eq_true rfl⟩ qX11_changeOdds_1 ?_
  rintro _ _ ⟨rfl, rfl⟩
  first | refine v_if_eqB hX 17 qX11_changeOdds_4 rfl (fun q4 => ?_) (fun q4 => ?_) | refine v_if_eq hX 17 qX11_changeOdds_4 rfl (fun q4 => ?_) (fun q4 => ?_)
  · skip
    refine v_bipush hX lb_n2 qX11_changeOdds_17 ?_
    refine v_ireturn hX qX11_changeOdds_19 (hP _ _ ?_)
    first | exact Or.inl ⟨⟨q4, q14⟩, rfl, rfl⟩ | exact Or.inr ⟨fun z => q4 z.1, rfl, rfl⟩ | exact Or.inr ⟨fun z => q14 z.2, rfl, rfl⟩
  · skip
    refine v_iload_n hX rfl qX11_changeOdds_7 ?_
    refine v_iconst hX li_0 qX11_changeOdds_8 ?_
    refine v_ldc hX c_X11_202 qX11_changeOdds_9 ?_
    refine v_callSq hX hR k_X11_110 (c_isWithin _ _ _) rfl (Nat.le_of_ble_eq_true rfl) rfl (Nat.le_of_ble_eq_true rfl) ⟨Nat.le_of_ble_eq_true rfl, Nat.le_of_ble_eq_true rfl⟩ qX11_changeOdds_11 ?_
    rintro _ _ ⟨rfl, rfl⟩
    first | refine v_if_neB hX 20 qX11_changeOdds_14 rfl (fun q14 => ?_) (fun q14 => ?_) | refine v_if_ne hX 20 qX11_changeOdds_14 rfl (fun q14 => ?_) (fun q14 => ?_)
    · skip
      refine v_aload_n hX rfl qX11_changeOdds_20 ?_
      refine v_getR hX g_X11_10 (hs.kd 0 rfl) (hs.rf 0 rfl) qX11_changeOdds_21 ?_
      refine v_getR hX g_X11_342 (hs.kd 1 rfl) (hs.rf 8 rfl) qX11_changeOdds_24 ?_
      refine v_iload_n hX rfl qX11_changeOdds_27 ?_
      refine v_ialdJ hX (hs.kd 2 rfl) (hs.ln 2 rfl) (by exact isC.ix q4) qX11_changeOdds_28 ?_
      refine v_istore_n hX (Nat.le_of_ble_eq_true rfl) rfl (ls' := [some _, some _, some _, some _]) rfl qX11_changeOdds_29 ?_
      refine v_aload_n hX rfl qX11_changeOdds_30 ?_
      refine v_getR hX g_X11_10 (hs.kd 0 rfl) (hs.rf 0 rfl) qX11_changeOdds_31 ?_
      refine v_getR hX g_X11_342 (hs.kd 1 rfl) (hs.rf 8 rfl) qX11_changeOdds_34 ?_
      refine v_iload_n hX rfl qX11_changeOdds_37 ?_
      refine v_iload_n hX rfl qX11_changeOdds_38 ?_
      refine v_iastJ hX (hs.kd 2 rfl) (hs.ln 2 rfl) (by exact isC.ix q4) qX11_changeOdds_39 ?_
      refine v_iload_n hX rfl qX11_changeOdds_40 ?_
      refine v_ireturn hX qX11_changeOdds_41 (hP _ _ ?_)
      first | exact Or.inl ⟨⟨q4, q14⟩, rfl, rfl⟩ | exact Or.inr ⟨fun z => q4 z.1, rfl, rfl⟩ | exact Or.inr ⟨fun z => q14 z.2, rfl, rfl⟩
    · skip
      refine v_bipush hX lb_n2 qX11_changeOdds_17 ?_
      refine v_ireturn hX qX11_changeOdds_19 (hP _ _ ?_)
      first | exact Or.inl ⟨⟨q4, q14⟩, rfl, rfl⟩ | exact Or.inr ⟨fun z => q4 z.1, rfl, rfl⟩ | exact Or.inr ⟨fun z => q14 z.2, rfl, rfl⟩
theorem qX11_changeTreads_0 : Dq cX11_changeTreads 0 (.iload_n 1) 1 1 := ⟨by decide +kernel, rfl⟩
theorem qX11_changeTreads_1 : Dq cX11_changeTreads 1 (.invokestatic 107) 3 4 := ⟨by decide +kernel, rfl⟩
theorem qX11_changeTreads_4 : Dq cX11_changeTreads 4 (.ifCond .eq 13) 3 7 := ⟨by decide +kernel, rfl⟩
theorem qX11_changeTreads_7 : Dq cX11_changeTreads 7 (.iload_n 2) 1 8 := ⟨by decide +kernel, rfl⟩
theorem qX11_changeTreads_8 : Dq cX11_changeTreads 8 (.iconst 0) 1 9 := ⟨by decide +kernel, rfl⟩
theorem qX11_changeTreads_9 : Dq cX11_changeTreads 9 (.bipush 99) 2 11 := ⟨by decide +kernel, rfl⟩
theorem qX11_changeTreads_11 : Dq cX11_changeTreads 11 (.invokestatic 110) 3 14 := ⟨by decide +kernel, rfl⟩
theorem qX11_changeTreads_14 : Dq cX11_changeTreads 14 (.ifCond .ne 6) 3 17 := ⟨by decide +kernel, rfl⟩
theorem qX11_changeTreads_17 : Dq cX11_changeTreads 17 (.bipush (-2)) 2 19 := ⟨by decide +kernel, rfl⟩
theorem qX11_changeTreads_19 : Dq cX11_changeTreads 19 (.ireturn) 1 20 := ⟨by decide +kernel, rfl⟩
theorem qX11_changeTreads_20 : Dq cX11_changeTreads 20 (.aload_n 0) 1 21 := ⟨by decide +kernel, rfl⟩
theorem qX11_changeTreads_21 : Dq cX11_changeTreads 21 (.getfield 10) 3 24 := ⟨by decide +kernel, rfl⟩
theorem qX11_changeTreads_24 : Dq cX11_changeTreads 24 (.getfield 345) 3 27 := ⟨by decide +kernel, rfl⟩
theorem qX11_changeTreads_27 : Dq cX11_changeTreads 27 (.iload_n 1) 1 28 := ⟨by decide +kernel, rfl⟩
theorem qX11_changeTreads_28 : Dq cX11_changeTreads 28 (.iaload) 1 29 := ⟨by decide +kernel, rfl⟩
theorem qX11_changeTreads_29 : Dq cX11_changeTreads 29 (.istore_n 3) 1 30 := ⟨by decide +kernel, rfl⟩
theorem qX11_changeTreads_30 : Dq cX11_changeTreads 30 (.aload_n 0) 1 31 := ⟨by decide +kernel, rfl⟩
theorem qX11_changeTreads_31 : Dq cX11_changeTreads 31 (.getfield 10) 3 34 := ⟨by decide +kernel, rfl⟩
theorem qX11_changeTreads_34 : Dq cX11_changeTreads 34 (.getfield 345) 3 37 := ⟨by decide +kernel, rfl⟩
theorem qX11_changeTreads_37 : Dq cX11_changeTreads 37 (.iload_n 1) 1 38 := ⟨by decide +kernel, rfl⟩
theorem qX11_changeTreads_38 : Dq cX11_changeTreads 38 (.iload_n 2) 1 39 := ⟨by decide +kernel, rfl⟩
theorem qX11_changeTreads_39 : Dq cX11_changeTreads 39 (.iastore) 1 40 := ⟨by decide +kernel, rfl⟩
theorem qX11_changeTreads_40 : Dq cX11_changeTreads 40 (.iload_n 3) 1 41 := ⟨by decide +kernel, rfl⟩
theorem qX11_changeTreads_41 : Dq cX11_changeTreads 41 (.ireturn) 1 42 := ⟨by decide +kernel, rfl⟩
set_option maxRecDepth 100000 in
set_option maxHeartbeats 4000000 in
theorem c_changeTreads {G : Glb} {h : AHp} (hs : ShC h) (of v : Int32) : CP G m_X11_changeTreads 3 0 0 [.ref 0, .int of, .int v] h (fun r h' => ((isC of ∧ (0 ≤ v ∧ v ≤ 99)) ∧ r = some (.int (hpI h 3 (tn of))) ∧ stI h 3 (tn of) v = h') ∨ (¬ (isC of ∧ (0 ≤ v ∧ v ≤ 99)) ∧ r = some (.int (-2)) ∧ h = h')) := by
  suffices key : ∀ P : Option Value → AHp → Prop, (∀ r h', (((isC of ∧ (0 ≤ v ∧ v ≤ 99)) ∧ r = some (.int (hpI h 3 (tn of))) ∧ stI h 3 (tn of) v = h') ∨ (¬ (isC of ∧ (0 ≤ v ∧ v ≤ 99)) ∧ r = some (.int (-2)) ∧ h = h')) → P r h') → CP G m_X11_changeTreads 3 0 0 [.ref 0, .int of, .int v] h P from key _ (fun _ _ z => z)
  intro P hP
  refine CP.of (by decide +kernel) (Nat.le_of_ble_eq_true rfl) fun X hX hR hnm => ?_
  show V X G 4 0 0 _ 0 [some (.ref 0), some (.int of), some (.int v), none] [] h
  refine v_iload_n hX rfl qX11_changeTreads_0 ?_
  refine v_callSq hX hR k_X11_107 (c_isCell _) rfl (Nat.le_of_ble_eq_true rfl) rfl (Nat.le_of_ble_eq_true rfl) ⟨Nat.le_of_ble_eq_true rfl, Nat.le_of_ble_eq_true rfl⟩ qX11_changeTreads_1 ?_
  rintro _ _ ⟨rfl, rfl⟩
  first | refine v_if_eqB hX 17 qX11_changeTreads_4 rfl (fun q4 => ?_) (fun q4 => ?_) | refine v_if_eq hX 17 qX11_changeTreads_4 rfl (fun q4 => ?_) (fun q4 => ?_)
  · skip
    refine v_bipush hX lb_n2 qX11_changeTreads_17 ?_
    refine v_ireturn hX qX11_changeTreads_19 (hP _ _ ?_)
    first | exact Or.inl ⟨⟨q4, q14⟩, rfl, rfl⟩ | exact Or.inr ⟨fun z => q4 z.1, rfl, rfl⟩ | exact Or.inr ⟨fun z => q14 z.2, rfl, rfl⟩
  · skip
    refine v_iload_n hX rfl qX11_changeTreads_7 ?_
    refine v_iconst hX li_0 qX11_changeTreads_8 ?_
    refine v_bipush hX lb_99 qX11_changeTreads_9 ?_
    refine v_callSq hX hR k_X11_110 (c_isWithin _ _ _) rfl (Nat.le_of_ble_eq_true rfl) rfl (Nat.le_of_ble_eq_true rfl) ⟨Nat.le_of_ble_eq_true rfl, Nat.le_of_ble_eq_true rfl⟩ qX11_changeTreads_11 ?_
    rintro _ _ ⟨rfl, rfl⟩
    first | refine v_if_neB hX 20 qX11_changeTreads_14 rfl (fun q14 => ?_) (fun q14 => ?_) | refine v_if_ne hX 20 qX11_changeTreads_14 rfl (fun q14 => ?_) (fun q14 => ?_)
    · skip
      refine v_aload_n hX rfl qX11_changeTreads_20 ?_
      refine v_getR hX g_X11_10 (hs.kd 0 rfl) (hs.rf 0 rfl) qX11_changeTreads_21 ?_
      refine v_getR hX g_X11_345 (hs.kd 1 rfl) (hs.rf 9 rfl) qX11_changeTreads_24 ?_
      refine v_iload_n hX rfl qX11_changeTreads_27 ?_
      refine v_ialdJ hX (hs.kd 3 rfl) (hs.ln 3 rfl) (by exact isC.ix q4) qX11_changeTreads_28 ?_
      refine v_istore_n hX (Nat.le_of_ble_eq_true rfl) rfl (ls' := [some _, some _, some _, some _]) rfl qX11_changeTreads_29 ?_
      refine v_aload_n hX rfl qX11_changeTreads_30 ?_
      refine v_getR hX g_X11_10 (hs.kd 0 rfl) (hs.rf 0 rfl) qX11_changeTreads_31 ?_
      refine v_getR hX g_X11_345 (hs.kd 1 rfl) (hs.rf 9 rfl) qX11_changeTreads_34 ?_
      refine v_iload_n hX rfl qX11_changeTreads_37 ?_
      refine v_iload_n hX rfl qX11_changeTreads_38 ?_
      refine v_iastJ hX (hs.kd 3 rfl) (hs.ln 3 rfl) (by exact isC.ix q4) qX11_changeTreads_39 ?_
      refine v_iload_n hX rfl qX11_changeTreads_40 ?_
      refine v_ireturn hX qX11_changeTreads_41 (hP _ _ ?_)
      first | exact Or.inl ⟨⟨q4, q14⟩, rfl, rfl⟩ | exact Or.inr ⟨fun z => q4 z.1, rfl, rfl⟩ | exact Or.inr ⟨fun z => q14 z.2, rfl, rfl⟩
    · skip
      refine v_bipush hX lb_n2 qX11_changeTreads_17 ?_
      refine v_ireturn hX qX11_changeTreads_19 (hP _ _ ?_)
      first | exact Or.inl ⟨⟨q4, q14⟩, rfl, rfl⟩ | exact Or.inr ⟨fun z => q4 z.1, rfl, rfl⟩ | exact Or.inr ⟨fun z => q14 z.2, rfl, rfl⟩
theorem qX11_changeBag_0 : Dq cX11_changeBag 0 (.iload_n 1) 1 1 := ⟨by decide +kernel, rfl⟩
theorem qX11_changeBag_1 : Dq cX11_changeBag 1 (.iconst 0) 1 2 := ⟨by decide +kernel, rfl⟩
theorem qX11_changeBag_2 : Dq cX11_changeBag 2 (.ldc 202) 2 4 := ⟨by decide +kernel, rfl⟩
theorem qX11_changeBag_4 : Dq cX11_changeBag 4 (.invokestatic 110) 3 7 := ⟨by decide +kernel, rfl⟩
theorem qX11_changeBag_7 : Dq cX11_changeBag 7 (.ifCond .ne 6) 3 10 := ⟨by decide +kernel, rfl⟩
theorem qX11_changeBag_10 : Dq cX11_changeBag 10 (.bipush (-2)) 2 12 := ⟨by decide +kernel, rfl⟩
theorem qX11_changeBag_12 : Dq cX11_changeBag 12 (.ireturn) 1 13 := ⟨by decide +kernel, rfl⟩
theorem qX11_changeBag_13 : Dq cX11_changeBag 13 (.aload_n 0) 1 14 := ⟨by decide +kernel, rfl⟩
theorem qX11_changeBag_14 : Dq cX11_changeBag 14 (.getfield 10) 3 17 := ⟨by decide +kernel, rfl⟩
theorem qX11_changeBag_17 : Dq cX11_changeBag 17 (.getfield 288) 3 20 := ⟨by decide +kernel, rfl⟩
theorem qX11_changeBag_20 : Dq cX11_changeBag 20 (.istore_n 2) 1 21 := ⟨by decide +kernel, rfl⟩
theorem qX11_changeBag_21 : Dq cX11_changeBag 21 (.aload_n 0) 1 22 := ⟨by decide +kernel, rfl⟩
theorem qX11_changeBag_22 : Dq cX11_changeBag 22 (.getfield 10) 3 25 := ⟨by decide +kernel, rfl⟩
theorem qX11_changeBag_25 : Dq cX11_changeBag 25 (.iload_n 1) 1 26 := ⟨by decide +kernel, rfl⟩
theorem qX11_changeBag_26 : Dq cX11_changeBag 26 (.putfield 288) 3 29 := ⟨by decide +kernel, rfl⟩
theorem qX11_changeBag_29 : Dq cX11_changeBag 29 (.iload_n 2) 1 30 := ⟨by decide +kernel, rfl⟩
theorem qX11_changeBag_30 : Dq cX11_changeBag 30 (.ireturn) 1 31 := ⟨by decide +kernel, rfl⟩
set_option maxRecDepth 100000 in
set_option maxHeartbeats 4000000 in
theorem c_changeBag {G : Glb} {h : AHp} (hs : ShC h) (v : Int32) : CP G m_X11_changeBag 3 0 0 [.ref 0, .int v] h (fun r h' => ((0 ≤ v ∧ v ≤ 999999) ∧ r = some (.int (hpI h 1 2)) ∧ stI h 1 2 v = h') ∨ (¬ (0 ≤ v ∧ v ≤ 999999) ∧ r = some (.int (-2)) ∧ h = h')) := by
  suffices key : ∀ P : Option Value → AHp → Prop, (∀ r h', (((0 ≤ v ∧ v ≤ 999999) ∧ r = some (.int (hpI h 1 2)) ∧ stI h 1 2 v = h') ∨ (¬ (0 ≤ v ∧ v ≤ 999999) ∧ r = some (.int (-2)) ∧ h = h')) → P r h') → CP G m_X11_changeBag 3 0 0 [.ref 0, .int v] h P from key _ (fun _ _ z => z)
  intro P hP
  refine CP.of (by decide +kernel) (Nat.le_of_ble_eq_true rfl) fun X hX hR hnm => ?_
  show V X G 3 0 0 _ 0 [some (.ref 0), some (.int v), none] [] h
  refine v_iload_n hX rfl qX11_changeBag_0 ?_
  refine v_iconst hX li_0 qX11_changeBag_1 ?_
  refine v_ldc hX c_X11_202 qX11_changeBag_2 ?_
  refine v_callSq hX hR k_X11_110 (c_isWithin _ _ _) rfl (Nat.le_of_ble_eq_true rfl) rfl (Nat.le_of_ble_eq_true rfl) ⟨Nat.le_of_ble_eq_true rfl, Nat.le_of_ble_eq_true rfl⟩ qX11_changeBag_4 ?_
  rintro _ _ ⟨rfl, rfl⟩
  first | refine v_if_neB hX 13 qX11_changeBag_7 rfl (fun q7 => ?_) (fun q7 => ?_) | refine v_if_ne hX 13 qX11_changeBag_7 rfl (fun q7 => ?_) (fun q7 => ?_)
  · skip
    refine v_aload_n hX rfl qX11_changeBag_13 ?_
    refine v_getR hX g_X11_10 (hs.kd 0 rfl) (hs.rf 0 rfl) qX11_changeBag_14 ?_
    refine v_getI hX g_X11_288 (Or.inl rfl) (hs.kd 1 rfl) qX11_changeBag_17 ?_
    refine v_istore_n hX (Nat.le_of_ble_eq_true rfl) rfl (ls' := [some _, some _, some _]) rfl qX11_changeBag_20 ?_
    refine v_aload_n hX rfl qX11_changeBag_21 ?_
    refine v_getR hX g_X11_10 (hs.kd 0 rfl) (hs.rf 0 rfl) qX11_changeBag_22 ?_
    refine v_iload_n hX rfl qX11_changeBag_25 ?_
    refine v_putI hX p_X11_288 (hs.kd 1 rfl) (Or.inl rfl) qX11_changeBag_26 ?_
    refine v_iload_n hX rfl qX11_changeBag_29 ?_
    refine v_ireturn hX qX11_changeBag_30 (hP _ _ ?_)
    first | exact Or.inl ⟨q7, rfl, rfl⟩ | exact Or.inr ⟨q7, rfl, rfl⟩
  · skip
    refine v_bipush hX lb_n2 qX11_changeBag_10 ?_
    refine v_ireturn hX qX11_changeBag_12 (hP _ _ ?_)
    first | exact Or.inl ⟨q7, rfl, rfl⟩ | exact Or.inr ⟨q7, rfl, rfl⟩
theorem qX11_changeHour_0 : Dq cX11_changeHour 0 (.iload_n 1) 1 1 := ⟨by decide +kernel, rfl⟩
theorem qX11_changeHour_1 : Dq cX11_changeHour 1 (.iconst 0) 1 2 := ⟨by decide +kernel, rfl⟩
theorem qX11_changeHour_2 : Dq cX11_changeHour 2 (.bipush 23) 2 4 := ⟨by decide +kernel, rfl⟩
theorem qX11_changeHour_4 : Dq cX11_changeHour 4 (.invokestatic 110) 3 7 := ⟨by decide +kernel, rfl⟩
theorem qX11_changeHour_7 : Dq cX11_changeHour 7 (.ifCond .ne 6) 3 10 := ⟨by decide +kernel, rfl⟩
theorem qX11_changeHour_10 : Dq cX11_changeHour 10 (.bipush (-2)) 2 12 := ⟨by decide +kernel, rfl⟩
theorem qX11_changeHour_12 : Dq cX11_changeHour 12 (.ireturn) 1 13 := ⟨by decide +kernel, rfl⟩
theorem qX11_changeHour_13 : Dq cX11_changeHour 13 (.aload_n 0) 1 14 := ⟨by decide +kernel, rfl⟩
theorem qX11_changeHour_14 : Dq cX11_changeHour 14 (.getfield 10) 3 17 := ⟨by decide +kernel, rfl⟩
theorem qX11_changeHour_17 : Dq cX11_changeHour 17 (.getfield 221) 3 20 := ⟨by decide +kernel, rfl⟩
theorem qX11_changeHour_20 : Dq cX11_changeHour 20 (.istore_n 2) 1 21 := ⟨by decide +kernel, rfl⟩
theorem qX11_changeHour_21 : Dq cX11_changeHour 21 (.aload_n 0) 1 22 := ⟨by decide +kernel, rfl⟩
theorem qX11_changeHour_22 : Dq cX11_changeHour 22 (.getfield 10) 3 25 := ⟨by decide +kernel, rfl⟩
theorem qX11_changeHour_25 : Dq cX11_changeHour 25 (.iload_n 1) 1 26 := ⟨by decide +kernel, rfl⟩
theorem qX11_changeHour_26 : Dq cX11_changeHour 26 (.putfield 221) 3 29 := ⟨by decide +kernel, rfl⟩
theorem qX11_changeHour_29 : Dq cX11_changeHour 29 (.iload_n 2) 1 30 := ⟨by decide +kernel, rfl⟩
theorem qX11_changeHour_30 : Dq cX11_changeHour 30 (.ireturn) 1 31 := ⟨by decide +kernel, rfl⟩
set_option maxRecDepth 100000 in
set_option maxHeartbeats 4000000 in
theorem c_changeHour {G : Glb} {h : AHp} (hs : ShC h) (v : Int32) : CP G m_X11_changeHour 3 0 0 [.ref 0, .int v] h (fun r h' => ((0 ≤ v ∧ v ≤ 23) ∧ r = some (.int (hpI h 1 3)) ∧ stI h 1 3 v = h') ∨ (¬ (0 ≤ v ∧ v ≤ 23) ∧ r = some (.int (-2)) ∧ h = h')) := by
  suffices key : ∀ P : Option Value → AHp → Prop, (∀ r h', (((0 ≤ v ∧ v ≤ 23) ∧ r = some (.int (hpI h 1 3)) ∧ stI h 1 3 v = h') ∨ (¬ (0 ≤ v ∧ v ≤ 23) ∧ r = some (.int (-2)) ∧ h = h')) → P r h') → CP G m_X11_changeHour 3 0 0 [.ref 0, .int v] h P from key _ (fun _ _ z => z)
  intro P hP
  refine CP.of (by decide +kernel) (Nat.le_of_ble_eq_true rfl) fun X hX hR hnm => ?_
  show V X G 3 0 0 _ 0 [some (.ref 0), some (.int v), none] [] h
  refine v_iload_n hX rfl qX11_changeHour_0 ?_
  refine v_iconst hX li_0 qX11_changeHour_1 ?_
  refine v_bipush hX lb_23 qX11_changeHour_2 ?_
  refine v_callSq hX hR k_X11_110 (c_isWithin _ _ _) rfl (Nat.le_of_ble_eq_true rfl) rfl (Nat.le_of_ble_eq_true rfl) ⟨Nat.le_of_ble_eq_true rfl, Nat.le_of_ble_eq_true rfl⟩ qX11_changeHour_4 ?_
  rintro _ _ ⟨rfl, rfl⟩
  first | refine v_if_neB hX 13 qX11_changeHour_7 rfl (fun q7 => ?_) (fun q7 => ?_) | refine v_if_ne hX 13 qX11_changeHour_7 rfl (fun q7 => ?_) (fun q7 => ?_)
  · skip
    refine v_aload_n hX rfl qX11_changeHour_13 ?_
    refine v_getR hX g_X11_10 (hs.kd 0 rfl) (hs.rf 0 rfl) qX11_changeHour_14 ?_
    refine v_getI hX g_X11_221 (Or.inl rfl) (hs.kd 1 rfl) qX11_changeHour_17 ?_
    refine v_istore_n hX (Nat.le_of_ble_eq_true rfl) rfl (ls' := [some _, some _, some _]) rfl qX11_changeHour_20 ?_
    refine v_aload_n hX rfl qX11_changeHour_21 ?_
    refine v_getR hX g_X11_10 (hs.kd 0 rfl) (hs.rf 0 rfl) qX11_changeHour_22 ?_
    refine v_iload_n hX rfl qX11_changeHour_25 ?_
    refine v_putI hX p_X11_221 (hs.kd 1 rfl) (Or.inl rfl) qX11_changeHour_26 ?_
    refine v_iload_n hX rfl qX11_changeHour_29 ?_
    refine v_ireturn hX qX11_changeHour_30 (hP _ _ ?_)
    first | exact Or.inl ⟨q7, rfl, rfl⟩ | exact Or.inr ⟨q7, rfl, rfl⟩
  · skip
    refine v_bipush hX lb_n2 qX11_changeHour_10 ?_
    refine v_ireturn hX qX11_changeHour_12 (hP _ _ ?_)
    first | exact Or.inl ⟨q7, rfl, rfl⟩ | exact Or.inr ⟨q7, rfl, rfl⟩
theorem qX11_changeMinutes_0 : Dq cX11_changeMinutes 0 (.iload_n 1) 1 1 := ⟨by decide +kernel, rfl⟩
theorem qX11_changeMinutes_1 : Dq cX11_changeMinutes 1 (.iconst 0) 1 2 := ⟨by decide +kernel, rfl⟩
theorem qX11_changeMinutes_2 : Dq cX11_changeMinutes 2 (.bipush 59) 2 4 := ⟨by decide +kernel, rfl⟩
theorem qX11_changeMinutes_4 : Dq cX11_changeMinutes 4 (.invokestatic 110) 3 7 := ⟨by decide +kernel, rfl⟩
theorem qX11_changeMinutes_7 : Dq cX11_changeMinutes 7 (.ifCond .ne 6) 3 10 := ⟨by decide +kernel, rfl⟩
theorem qX11_changeMinutes_10 : Dq cX11_changeMinutes 10 (.bipush (-2)) 2 12 := ⟨by decide +kernel, rfl⟩
theorem qX11_changeMinutes_12 : Dq cX11_changeMinutes 12 (.ireturn) 1 13 := ⟨by decide +kernel, rfl⟩
theorem qX11_changeMinutes_13 : Dq cX11_changeMinutes 13 (.aload_n 0) 1 14 := ⟨by decide +kernel, rfl⟩
theorem qX11_changeMinutes_14 : Dq cX11_changeMinutes 14 (.getfield 10) 3 17 := ⟨by decide +kernel, rfl⟩
theorem qX11_changeMinutes_17 : Dq cX11_changeMinutes 17 (.getfield 291) 3 20 := ⟨by decide +kernel, rfl⟩
theorem qX11_changeMinutes_20 : Dq cX11_changeMinutes 20 (.istore_n 2) 1 21 := ⟨by decide +kernel, rfl⟩
theorem qX11_changeMinutes_21 : Dq cX11_changeMinutes 21 (.aload_n 0) 1 22 := ⟨by decide +kernel, rfl⟩
theorem qX11_changeMinutes_22 : Dq cX11_changeMinutes 22 (.getfield 10) 3 25 := ⟨by decide +kernel, rfl⟩
theorem qX11_changeMinutes_25 : Dq cX11_changeMinutes 25 (.iload_n 1) 1 26 := ⟨by decide +kernel, rfl⟩
theorem qX11_changeMinutes_26 : Dq cX11_changeMinutes 26 (.putfield 291) 3 29 := ⟨by decide +kernel, rfl⟩
theorem qX11_changeMinutes_29 : Dq cX11_changeMinutes 29 (.iload_n 2) 1 30 := ⟨by decide +kernel, rfl⟩
theorem qX11_changeMinutes_30 : Dq cX11_changeMinutes 30 (.ireturn) 1 31 := ⟨by decide +kernel, rfl⟩
set_option maxRecDepth 100000 in
set_option maxHeartbeats 4000000 in
theorem c_changeMinutes {G : Glb} {h : AHp} (hs : ShC h) (v : Int32) : CP G m_X11_changeMinutes 3 0 0 [.ref 0, .int v] h (fun r h' => ((0 ≤ v ∧ v ≤ 59) ∧ r = some (.int (hpI h 1 4)) ∧ stI h 1 4 v = h') ∨ (¬ (0 ≤ v ∧ v ≤ 59) ∧ r = some (.int (-2)) ∧ h = h')) := by
  suffices key : ∀ P : Option Value → AHp → Prop, (∀ r h', (((0 ≤ v ∧ v ≤ 59) ∧ r = some (.int (hpI h 1 4)) ∧ stI h 1 4 v = h') ∨ (¬ (0 ≤ v ∧ v ≤ 59) ∧ r = some (.int (-2)) ∧ h = h')) → P r h') → CP G m_X11_changeMinutes 3 0 0 [.ref 0, .int v] h P from key _ (fun _ _ z => z)
  intro P hP
  refine CP.of (by decide +kernel) (Nat.le_of_ble_eq_true rfl) fun X hX hR hnm => ?_
  show V X G 3 0 0 _ 0 [some (.ref 0), some (.int v), none] [] h
  refine v_iload_n hX rfl qX11_changeMinutes_0 ?_
  refine v_iconst hX li_0 qX11_changeMinutes_1 ?_
  refine v_bipush hX lb_59 qX11_changeMinutes_2 ?_
  refine v_callSq hX hR k_X11_110 (c_isWithin _ _ _) rfl (Nat.le_of_ble_eq_true rfl) rfl (Nat.le_of_ble_eq_true rfl) ⟨Nat.le_of_ble_eq_true rfl, Nat.le_of_ble_eq_true rfl⟩ qX11_changeMinutes_4 ?_
  rintro _ _ ⟨rfl, rfl⟩
  first | refine v_if_neB hX 13 qX11_changeMinutes_7 rfl (fun q7 => ?_) (fun q7 => ?_) | refine v_if_ne hX 13 qX11_changeMinutes_7 rfl (fun q7 => ?_) (fun q7 => ?_)
  · skip
    refine v_aload_n hX rfl qX11_changeMinutes_13 ?_
    refine v_getR hX g_X11_10 (hs.kd 0 rfl) (hs.rf 0 rfl) qX11_changeMinutes_14 ?_
    refine v_getI hX g_X11_291 (Or.inl rfl) (hs.kd 1 rfl) qX11_changeMinutes_17 ?_
    refine v_istore_n hX (Nat.le_of_ble_eq_true rfl) rfl (ls' := [some _, some _, some _]) rfl qX11_changeMinutes_20 ?_
    refine v_aload_n hX rfl qX11_changeMinutes_21 ?_
    refine v_getR hX g_X11_10 (hs.kd 0 rfl) (hs.rf 0 rfl) qX11_changeMinutes_22 ?_
    refine v_iload_n hX rfl qX11_changeMinutes_25 ?_
    refine v_putI hX p_X11_291 (hs.kd 1 rfl) (Or.inl rfl) qX11_changeMinutes_26 ?_
    refine v_iload_n hX rfl qX11_changeMinutes_29 ?_
    refine v_ireturn hX qX11_changeMinutes_30 (hP _ _ ?_)
    first | exact Or.inl ⟨q7, rfl, rfl⟩ | exact Or.inr ⟨q7, rfl, rfl⟩
  · skip
    refine v_bipush hX lb_n2 qX11_changeMinutes_10 ?_
    refine v_ireturn hX qX11_changeMinutes_12 (hP _ _ ?_)
    first | exact Or.inl ⟨q7, rfl, rfl⟩ | exact Or.inr ⟨q7, rfl, rfl⟩
theorem qX11_set_0 : Dq cX11_set 0 (.iload_n 1) 1 1 := ⟨by decide +kernel, rfl⟩
theorem qX11_set_1 : Dq cX11_set 1 (.tableswitch 67 0 4 #[35, 42, 49, 55, 61]) 35 36 := ⟨by decide +kernel, rfl⟩
theorem qX11_set_36 : Dq cX11_set 36 (.aload_n 0) 1 37 := ⟨by decide +kernel, rfl⟩
theorem qX11_set_37 : Dq cX11_set 37 (.iload_n 2) 1 38 := ⟨by decide +kernel, rfl⟩
theorem qX11_set_38 : Dq cX11_set 38 (.iload_n 3) 1 39 := ⟨by decide +kernel, rfl⟩
theorem qX11_set_39 : Dq cX11_set 39 (.invokevirtual 90) 3 42 := ⟨by decide +kernel, rfl⟩
theorem qX11_set_42 : Dq cX11_set 42 (.ireturn) 1 43 := ⟨by decide +kernel, rfl⟩
theorem qX11_set_43 : Dq cX11_set 43 (.aload_n 0) 1 44 := ⟨by decide +kernel, rfl⟩
theorem qX11_set_44 : Dq cX11_set 44 (.iload_n 2) 1 45 := ⟨by decide +kernel, rfl⟩
theorem qX11_set_45 : Dq cX11_set 45 (.iload_n 3) 1 46 := ⟨by decide +kernel, rfl⟩
theorem qX11_set_46 : Dq cX11_set 46 (.invokevirtual 94) 3 49 := ⟨by decide +kernel, rfl⟩
theorem qX11_set_49 : Dq cX11_set 49 (.ireturn) 1 50 := ⟨by decide +kernel, rfl⟩
theorem qX11_set_50 : Dq cX11_set 50 (.aload_n 0) 1 51 := ⟨by decide +kernel, rfl⟩
theorem qX11_set_51 : Dq cX11_set 51 (.iload_n 3) 1 52 := ⟨by decide +kernel, rfl⟩
theorem qX11_set_52 : Dq cX11_set 52 (.invokevirtual 97) 3 55 := ⟨by decide +kernel, rfl⟩
theorem qX11_set_55 : Dq cX11_set 55 (.ireturn) 1 56 := ⟨by decide +kernel, rfl⟩
theorem qX11_set_56 : Dq cX11_set 56 (.aload_n 0) 1 57 := ⟨by decide +kernel, rfl⟩
theorem qX11_set_57 : Dq cX11_set 57 (.iload_n 3) 1 58 := ⟨by decide +kernel, rfl⟩
theorem qX11_set_58 : Dq cX11_set 58 (.invokevirtual 101) 3 61 := ⟨by decide +kernel, rfl⟩
theorem qX11_set_61 : Dq cX11_set 61 (.ireturn) 1 62 := ⟨by decide +kernel, rfl⟩
theorem qX11_set_62 : Dq cX11_set 62 (.aload_n 0) 1 63 := ⟨by decide +kernel, rfl⟩
theorem qX11_set_63 : Dq cX11_set 63 (.iload_n 3) 1 64 := ⟨by decide +kernel, rfl⟩
theorem qX11_set_64 : Dq cX11_set 64 (.invokevirtual 104) 3 67 := ⟨by decide +kernel, rfl⟩
theorem qX11_set_67 : Dq cX11_set 67 (.ireturn) 1 68 := ⟨by decide +kernel, rfl⟩
theorem qX11_set_68 : Dq cX11_set 68 (.bipush (-2)) 2 70 := ⟨by decide +kernel, rfl⟩
theorem qX11_set_70 : Dq cX11_set 70 (.ireturn) 1 71 := ⟨by decide +kernel, rfl⟩
set_option maxRecDepth 100000 in
set_option maxHeartbeats 4000000 in
theorem c_set {G : Glb} {h : AHp} {E : Sst} (hc : CV h E) (what of v : Int32) : CP G m_X11_set 4 0 0 [.ref 0, .int what, .int of, .int v] h (fun r h' => r = some (.int (setI (sB E) what of v).1) ∧ ∃ σ, h' = (σ, h.2) ∧ CV (σ, h.2) (setB E (setI (sB E) what of v).2) ∧ K38 h σ) := by
  suffices key : ∀ P : Option Value → AHp → Prop, (∀ r h', (r = some (.int (setI (sB E) what of v).1) ∧ ∃ σ, h' = (σ, h.2) ∧ CV (σ, h.2) (setB E (setI (sB E) what of v).2) ∧ K38 h σ) → P r h') → CP G m_X11_set 4 0 0 [.ref 0, .int what, .int of, .int v] h P from key _ (fun _ _ z => z)
  intro P hP
  have hs := hc.sh
  refine CP.of (by decide +kernel) (Nat.le_of_ble_eq_true rfl) fun X hX hR hnm => ?_
  show V X G 4 0 0 _ 0 [some (.ref 0), some (.int what), some (.int of), some (.int v)] [] h
  refine v_iload_n hX rfl qX11_set_0 ?_
  refine v_case (0 : Int32) (fun q1 => ?_) (fun q1_0 => ?_)
  · skip
    refine v_tableIn (off := 35) hX 36 qX11_set_1 (by first | exact (by rw [q1]; decide) | decide) (by first | exact (by rw [q1]; decide) | decide) (by first | exact (by rw [q1]; rfl) | rfl) rfl ?_
    refine v_aload_n hX rfl qX11_set_36 ?_
    refine v_iload_n hX rfl qX11_set_37 ?_
    refine v_iload_n hX rfl qX11_set_38 ?_
    refine v_callVq hX hR k_X11_90 (hs.kd 0 rfl) (c_changeOdds (by exact hs) (by exact of) (by exact v)) rfl (Nat.le_of_ble_eq_true rfl) rfl (Nat.le_of_ble_eq_true rfl) ⟨Nat.le_of_ble_eq_true rfl, Nat.le_of_ble_eq_true rfl⟩ qX11_set_39 ?_
    rintro _ _ (⟨hcd, rfl, rfl⟩ | ⟨hcd, rfl, rfl⟩)
    · skip
      refine v_ireturn hX qX11_set_42 (hP _ _ ?_)
      rw [setI, if_pos q1]
      rw [if_pos hcd]
      exact ⟨by rw [← hc.b, bv1 (isC.ix hcd.1).2.2], _, rfl, hc.up1 (i := 1) (k := (tn of)) (v := v) (Or.inl ⟨Or.inl rfl, (isC.ix hcd.1).2.2⟩) (hc.ok.2.2.2.1.o (inR.of (n := 999999) (by omega) hcd.2.1 hcd.2.2)), fun a ha => funext fun k => by show hpI (stI _ _ _ _) _ _ = _; rw [hpI_st, if_neg (by omega)]⟩
    · skip
      refine v_ireturn hX qX11_set_42 (hP _ _ ?_)
      rw [setI, if_pos q1]
      rw [if_neg hcd]
      exact ⟨rfl, h.1, rfl, hc, fun a _ => rfl⟩
  refine v_case (1 : Int32) (fun q1 => ?_) (fun q1_1 => ?_)
  · skip
    refine v_tableIn (off := 42) hX 43 qX11_set_1 (by first | exact (by rw [q1]; decide) | decide) (by first | exact (by rw [q1]; decide) | decide) (by first | exact (by rw [q1]; rfl) | rfl) rfl ?_
    refine v_aload_n hX rfl qX11_set_43 ?_
    refine v_iload_n hX rfl qX11_set_44 ?_
    refine v_iload_n hX rfl qX11_set_45 ?_
    refine v_callVq hX hR k_X11_94 (hs.kd 0 rfl) (c_changeTreads (by exact hs) (by exact of) (by exact v)) rfl (Nat.le_of_ble_eq_true rfl) rfl (Nat.le_of_ble_eq_true rfl) ⟨Nat.le_of_ble_eq_true rfl, Nat.le_of_ble_eq_true rfl⟩ qX11_set_46 ?_
    rintro _ _ (⟨hcd, rfl, rfl⟩ | ⟨hcd, rfl, rfl⟩)
    · skip
      refine v_ireturn hX qX11_set_49 (hP _ _ ?_)
      rw [setI, if_neg (by rw [q1]; decide), if_pos q1]
      rw [if_pos hcd]
      exact ⟨by rw [← hc.b, bv2 (isC.ix hcd.1).2.2], _, rfl, hc.up1 (i := 2) (k := (tn of)) (v := v) (Or.inl ⟨Or.inr rfl, (isC.ix hcd.1).2.2⟩) (hc.ok.2.2.2.1.t (inR.of (n := 99) (by omega) hcd.2.1 hcd.2.2)), fun a ha => funext fun k => by show hpI (stI _ _ _ _) _ _ = _; rw [hpI_st, if_neg (by omega)]⟩
    · skip
      refine v_ireturn hX qX11_set_49 (hP _ _ ?_)
      rw [setI, if_neg (by rw [q1]; decide), if_pos q1]
      rw [if_neg hcd]
      exact ⟨rfl, h.1, rfl, hc, fun a _ => rfl⟩
  refine v_case (2 : Int32) (fun q1 => ?_) (fun q1_2 => ?_)
  · skip
    refine v_tableIn (off := 49) hX 50 qX11_set_1 (by first | exact (by rw [q1]; decide) | decide) (by first | exact (by rw [q1]; decide) | decide) (by first | exact (by rw [q1]; rfl) | rfl) rfl ?_
    refine v_aload_n hX rfl qX11_set_50 ?_
    refine v_iload_n hX rfl qX11_set_51 ?_
    refine v_callVq hX hR k_X11_97 (hs.kd 0 rfl) (c_changeBag (by exact hs) (by exact v)) rfl (Nat.le_of_ble_eq_true rfl) rfl (Nat.le_of_ble_eq_true rfl) ⟨Nat.le_of_ble_eq_true rfl, Nat.le_of_ble_eq_true rfl⟩ qX11_set_52 ?_
    rintro _ _ (⟨hcd, rfl, rfl⟩ | ⟨hcd, rfl, rfl⟩)
    · skip
      refine v_ireturn hX qX11_set_55 (hP _ _ ?_)
      rw [setI, if_neg (by rw [q1]; decide), if_neg (by rw [q1]; decide), if_pos q1]
      rw [if_pos hcd]
      exact ⟨by rw [← hc.b, bv0 (by omega) (by omega)], _, rfl, hc.up1 (i := 0) (k := 2) (v := v) (Or.inr ⟨rfl, by omega, by omega⟩) (hc.ok.2.2.2.1.f (Or.inl ⟨rfl, inR.of (n := 999999) (by omega) hcd.1 hcd.2⟩)), fun a ha => funext fun k => by show hpI (stI _ _ _ _) _ _ = _; rw [hpI_st, if_neg (by omega)]⟩
    · skip
      refine v_ireturn hX qX11_set_55 (hP _ _ ?_)
      rw [setI, if_neg (by rw [q1]; decide), if_neg (by rw [q1]; decide), if_pos q1]
      rw [if_neg hcd]
      exact ⟨rfl, h.1, rfl, hc, fun a _ => rfl⟩
  refine v_case (3 : Int32) (fun q1 => ?_) (fun q1_3 => ?_)
  · skip
    refine v_tableIn (off := 55) hX 56 qX11_set_1 (by first | exact (by rw [q1]; decide) | decide) (by first | exact (by rw [q1]; decide) | decide) (by first | exact (by rw [q1]; rfl) | rfl) rfl ?_
    refine v_aload_n hX rfl qX11_set_56 ?_
    refine v_iload_n hX rfl qX11_set_57 ?_
    refine v_callVq hX hR k_X11_101 (hs.kd 0 rfl) (c_changeHour (by exact hs) (by exact v)) rfl (Nat.le_of_ble_eq_true rfl) rfl (Nat.le_of_ble_eq_true rfl) ⟨Nat.le_of_ble_eq_true rfl, Nat.le_of_ble_eq_true rfl⟩ qX11_set_58 ?_
    rintro _ _ (⟨hcd, rfl, rfl⟩ | ⟨hcd, rfl, rfl⟩)
    · skip
      refine v_ireturn hX qX11_set_61 (hP _ _ ?_)
      rw [setI, if_neg (by rw [q1]; decide), if_neg (by rw [q1]; decide), if_neg (by rw [q1]; decide), if_pos q1]
      rw [if_pos hcd]
      exact ⟨by rw [← hc.b, bv0 (by omega) (by omega)], _, rfl, hc.up1 (i := 0) (k := 3) (v := v) (Or.inr ⟨rfl, by omega, by omega⟩) (hc.ok.2.2.2.1.f (Or.inr (Or.inl ⟨rfl, inR.of (n := 23) (by omega) hcd.1 hcd.2⟩))), fun a ha => funext fun k => by show hpI (stI _ _ _ _) _ _ = _; rw [hpI_st, if_neg (by omega)]⟩
    · skip
      refine v_ireturn hX qX11_set_61 (hP _ _ ?_)
      rw [setI, if_neg (by rw [q1]; decide), if_neg (by rw [q1]; decide), if_neg (by rw [q1]; decide), if_pos q1]
      rw [if_neg hcd]
      exact ⟨rfl, h.1, rfl, hc, fun a _ => rfl⟩
  refine v_case (4 : Int32) (fun q1 => ?_) (fun q1_4 => ?_)
  · skip
    refine v_tableIn (off := 61) hX 62 qX11_set_1 (by first | exact (by rw [q1]; decide) | decide) (by first | exact (by rw [q1]; decide) | decide) (by first | exact (by rw [q1]; rfl) | rfl) rfl ?_
    refine v_aload_n hX rfl qX11_set_62 ?_
    refine v_iload_n hX rfl qX11_set_63 ?_
    refine v_callVq hX hR k_X11_104 (hs.kd 0 rfl) (c_changeMinutes (by exact hs) (by exact v)) rfl (Nat.le_of_ble_eq_true rfl) rfl (Nat.le_of_ble_eq_true rfl) ⟨Nat.le_of_ble_eq_true rfl, Nat.le_of_ble_eq_true rfl⟩ qX11_set_64 ?_
    rintro _ _ (⟨hcd, rfl, rfl⟩ | ⟨hcd, rfl, rfl⟩)
    · skip
      refine v_ireturn hX qX11_set_67 (hP _ _ ?_)
      rw [setI, if_neg (by rw [q1]; decide), if_neg (by rw [q1]; decide), if_neg (by rw [q1]; decide), if_neg (by rw [q1]; decide), if_pos q1]
      rw [if_pos hcd]
      exact ⟨by rw [← hc.b, bv0 (by omega) (by omega)], _, rfl, hc.up1 (i := 0) (k := 4) (v := v) (Or.inr ⟨rfl, by omega, by omega⟩) (hc.ok.2.2.2.1.f (Or.inr (Or.inr (Or.inl ⟨rfl, inR.of (n := 59) (by omega) hcd.1 hcd.2⟩)))), fun a ha => funext fun k => by show hpI (stI _ _ _ _) _ _ = _; rw [hpI_st, if_neg (by omega)]⟩
    · skip
      refine v_ireturn hX qX11_set_67 (hP _ _ ?_)
      rw [setI, if_neg (by rw [q1]; decide), if_neg (by rw [q1]; decide), if_neg (by rw [q1]; decide), if_neg (by rw [q1]; decide), if_pos q1]
      rw [if_neg hcd]
      exact ⟨rfl, h.1, rfl, hc, fun a _ => rfl⟩
  refine v_tableOut hX 68 qX11_set_1 ?_ rfl ?_
  · have z0 := ne_i (0) (by decide) q1_0; have z1 := ne_i (1) (by decide) q1_1; have z2 := ne_i (2) (by decide) q1_2; have z3 := ne_i (3) (by decide) q1_3; have z4 := ne_i (4) (by decide) q1_4; omega
  refine v_bipush hX lb_n2 qX11_set_68 ?_
  refine v_ireturn hX qX11_set_70 (hP _ _ ?_)
  rw [setI, if_neg q1_0, if_neg q1_1, if_neg q1_2, if_neg q1_3, if_neg q1_4]
  exact ⟨rfl, h.1, rfl, hc, fun a _ => rfl⟩
