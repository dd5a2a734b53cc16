/-! class and reference stand side by side -/
theorem MW.ext {h h' : AHp} {E : Sst} (hc : MW h E) (hn : hpN h ≤ hpN h') (he : ∀ a, 38 ≤ a → a < 58 → hpI h' a = hpI h a ∧ hpR h' a = hpR h a ∧ hpK h' a = hpK h a ∧ hpL h' a = hpL h a) : MW h' E := by
  obtain ⟨⟨s1, s2, s3, s4⟩, h2, h3, h4, h5, h6, h7, h8⟩ := hc
  have hI : ∀ a k, 38 ≤ a → a < 58 → hpI h' a k = hpI h a k := fun a k a1 a2 => congrFun (he a a1 a2).1 k
  refine ⟨⟨Nat.le_trans s1 hn, fun i c e => ?_, fun i L e => ?_, fun e hm => ?_⟩, ⟨(hI 38 3 (by omega) (by omega)).trans h2.1, fun t ht => ?_⟩, h3.ext (hI 38 14 (by omega) (by omega)) (fun i => hI 44 i (by omega) (by omega)) (fun i => hI 45 i (by omega) (by omega)), (bm_ext (fun k _ => hI 42 k (by omega) (by omega)) (fun k _ => hI 43 k (by omega) (by omega)) (hI 38 9 (by omega) (by omega)) (hI 38 10 (by omega) (by omega)) (hI 38 11 (by omega) (by omega)) (hI 38 4 (by omega) (by omega))).trans h4, ?_, ⟨(hI 38 6 (by omega) (by omega)).trans h6.1, fun i hi => (hI 41 i (by omega) (by omega)).trans (h6.2 i hi)⟩, fun i hi => ?_, h8⟩
  · have hl := (List.getElem?_eq_some_iff.mp e).1
    have h20 : kTM.length = 20 := rfl
    exact (he (38 + i) (by omega) (by omega)).2.2.1.trans (s2 i c e)
  · have hl := (List.getElem?_eq_some_iff.mp e).1
    have h20 : lTM.length = 20 := rfl
    exact (he (38 + i) (by omega) (by omega)).2.2.2.trans (s3 i L e)
  · have h38 : ∀ q ∈ rTM, q.1 = 38 := by decide
    have := congrFun (he 38 (by omega) (by omega)).2.1 e.2.1
    rw [h38 e hm] at *
    have z := s4 e hm
    rw [h38 e hm] at z
    exact this.trans z
  · obtain ⟨b, sz, g1, g2, g3, g4⟩ := h2.2 t ht
    exact ⟨b, sz, g1, fun i hi => (hI 39 _ (by omega) (by omega)).trans (g2 i hi), (hI 40 t (by omega) (by omega)).trans g3, g4⟩
  · rcases h5 with ⟨z1, z2⟩ | ⟨b, z1, z2, z3, z4, z5, z6, z7⟩
    · exact Or.inl ⟨z1, (hI 38 46 (by omega) (by omega)).trans z2⟩
    · exact Or.inr ⟨b, z1, fun k hk => ⟨(hI 52 k (by omega) (by omega)).trans (z2 k hk).1, (hI 53 k (by omega) (by omega)).trans (z2 k hk).2⟩, (hI 38 46 (by omega) (by omega)).trans z3, (hI 38 47 (by omega) (by omega)).trans z4, (hI 38 48 (by omega) (by omega)).trans z5, (hI 38 49 (by omega) (by omega)).trans z6, z7⟩
  · obtain ⟨g1, g2⟩ := h7 i hi
    exact ⟨(hI 54 i (by omega) (by omega)).trans g1, fun z => ⟨(hI 55 i (by omega) (by omega)).trans (g2 z).1, (hI 56 i (by omega) (by omega)).trans (g2 z).2.1, fun k hk => (hI 57 _ (by omega) (by omega)).trans ((g2 z).2.2 k hk)⟩⟩
theorem MW.k38 {h : AHp} {E : Sst} (hc : MW h E) {σ : Nat → Nat → Int32} (hk : K38 h σ) : MW (σ, h.2) E := hc.ext (Nat.le_refl _) (fun a a1 _ => ⟨hk a a1, rfl, rfl, rfl⟩)
theorem MW.kp {h h' : AHp} {E : Sst} (hc : MW h E) (hk : Kp h h') : MW h' E := hc.ext hk.1 (fun a a1 a2 => by
  obtain ⟨g1, g2, g3, g4, g5⟩ := hk.2 a a1 (Nat.lt_of_lt_of_le a2 hc.1.1)
  exact ⟨g1, g2, g4, g5⟩)
theorem kcl_m20 : ∀ a, a < 20 → ∀ c ∈ [1, 2, 7, 4, 8, 3], ¬ kTM[a]? = some c := by decide +kernel
theorem kcl_model : ∀ a, 38 ≤ a → a < 58 → ∀ c, c ∈ [1, 2, 7, 4, 8, 3] → ¬ kTM[a - 38]? = some c := fun a _ h2 c hc => kcl_m20 (a - 38) (by omega) c hc
/-- beside the reference a looker lies behind it -/
theorem eye58 {h : AHp} (hs : ShC h) (hm : ShM h) {a k : Nat} (hk : Kd h a (kcl k)) : 58 ≤ a := by
  have h38 := eye38 hs hk
  refine Nat.le_of_not_lt fun hlt => ?_
  have hl : a - 38 < kTM.length := by
    have h20 : kTM.length = 20 := rfl
    omega
  have h1 : kTM[a - 38]? = some kTM[a - 38] := List.getElem?_eq_getElem hl
  have h2 := hm.2.1 _ _ h1
  rw [show 38 + (a - 38) = a by omega, hk.1] at h2
  exact kcl_model a h38 hlt _ (kcl_in k) (by rw [h1, ← h2])
theorem CV.ext {h h' : AHp} {E : Sst} (hc : CV h E) (hn : hpN h ≤ hpN h') (he : ∀ a, a < 38 → hpI h' a = hpI h a ∧ hpR h' a = hpR h a ∧ hpK h' a = hpK h a ∧ hpL h' a = hpL h a) (hl : ∀ a k, k < 6 → Kd h a (kcl k) → hpI h' a = hpI h a ∧ hpK h' a = hpK h a) : CV h' E := by
  obtain ⟨⟨s1, s2, s3, s4⟩, h2, h3, ⟨e, p1, p2, p3⟩, h5, h6, h7, h8, h9⟩ := hc
  have hI : ∀ a k, a < 38 → hpI h' a k = hpI h a k := fun a k a1 => congrFun (he a a1).1 k
  have hb : ∀ B, B = 1 ∨ B = 7 → bv h' B = bv h B := fun B hB => bv_ext (fun i k ho => by
    have : i ≤ 2 := by rcases ho with ⟨e, -⟩ | ⟨e, -⟩ <;> omega
    exact hI (B + i) k (by omega))
  refine ⟨⟨Nat.le_trans s1 hn, fun i c e => ?_, fun i L e => ?_, fun e hm => ?_⟩, ?_, ?_, ⟨e, (hI 0 5 (by omega)).trans p1, p2, fun i hi => ?_⟩, (hb 1 (Or.inl rfl)).trans h5, ?_, ⟨(hI 11 1 (by omega)).trans h7.1, fun i hi => (hI 12 i (by omega)).trans (h7.2 i hi)⟩, fun i hi => ?_, h9⟩
  · have hl2 := (List.getElem?_eq_some_iff.mp e).1
    have h20 : kTC.length = 38 := rfl
    exact (he i (by omega)).2.2.1.trans (s2 i c e)
  · have hl2 := (List.getElem?_eq_some_iff.mp e).1
    have h20 : lTC.length = 38 := rfl
    exact (he i (by omega)).2.2.2.trans (s3 i L e)
  · have h38 : ∀ q ∈ rTC, q.1 < 38 := by decide
    exact (congrFun (he e.1 (h38 e hm)).2.1 e.2.1).trans (s4 e hm)
  · obtain ⟨z1, z2, F, z3, z4, z5, z6, z7⟩ := h2
    refine ⟨(hI 17 2 (by omega)).trans z1, z2, F, z3, fun i hi => ⟨(hI 19 i (by omega)).trans (z4 i hi).1, (z4 i hi).2⟩, z5, z6, fun t q ht hq env => ?_⟩
    rw [show hpI h' 18 = hpI h 18 from (he 18 (by omega)).1]
    exact z7 t q ht hq env
  · intro q hq
    rcases h3 q hq with z | ⟨rl, t, hr, z1, z2, z3, z4, z5, z6, z7⟩
    · exact Or.inl ((hI 22 q (by omega)).trans z)
    · exact Or.inr ⟨rl, t, hr, z1, z2, z3, (hI 22 q (by omega)).trans z4, (hI 23 q (by omega)).trans z5, (hI 24 q (by omega)).trans z6, (hI 25 q (by omega)).trans z7⟩
  · obtain ⟨g1, g2, g3, g4⟩ := p3 i hi
    obtain ⟨l1, l2⟩ := hl (e i) _ g2 g3
    exact ⟨(congrFun (he 10 (by omega)).2.1 i).trans g1, g2, ⟨l2.trans g3.1, Nat.lt_of_lt_of_le g3.2 hn⟩, (congrFun l1 0).trans g4⟩
  · rcases h6 with ⟨w1, w2⟩ | ⟨w1, w2⟩
    · exact Or.inl ⟨w1, (hI 0 3 (by omega)).trans w2⟩
    · exact Or.inr ⟨by rw [hb 7 (Or.inr rfl)]; exact w1, (hI 0 3 (by omega)).trans w2⟩
  · obtain ⟨g1, g2, g3⟩ := h8 i hi
    exact ⟨(hI _ 1 (by omega)).trans g1, (hI _ 2 (by omega)).trans g2, fun k hk => (hI _ k (by omega)).trans (g3 k hk)⟩
theorem CV.k58 {h : AHp} {E : Sst} (hc : CV h E) (hm : ShM h) {σ : Nat → Nat → Int32} {J : Nat → Nat → Int64} (hk : K58 h σ) : CV (mkH h σ J) E := hc.ext (Nat.le_refl _) (fun a a1 => ⟨hk a (Or.inl a1), rfl, rfl, rfl⟩) (fun a k _ hd => ⟨hk a (Or.inr (eye58 hc.1 hm hd)), rfl⟩)
