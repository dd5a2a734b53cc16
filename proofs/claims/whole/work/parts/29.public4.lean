/-! public calls of the class: image, back, feed, cell, copy, taken, sheet -/
def FrI (h : AHp) (σ : Nat → Nat → Int32) : Prop := ∀ a k, ¬ (7 ≤ a ∧ a ≤ 9) → ¬ (a = 0 ∧ k = 3) → σ a k = hpI h a k
theorem CV.img {h : AHp} {E : Sst} (hc : CV h E) {σ : Nat → Nat → Int32} (hf : FrI h σ) {o : Option Bch} (hk : KpC (σ, h.2) o) (ho : ∀ b, o = some b → BeOK b (sC E)) : CV (σ, h.2) (setO E o) := by
  obtain ⟨h1, h2, h3, ⟨e, h4⟩, h5, h6, h7, h8, h9⟩ := hc
  have e1 : bv (σ, h.2) 1 = bv h 1 := bv_ext (fun i k ho => by
    have : i ≤ 2 := by rcases ho with ⟨e, -⟩ | ⟨e, -⟩ <;> omega
    exact hf (1 + i) k (by omega) (by omega))
  refine ⟨h1, h2.fr (hf 17 2 (by omega) (by omega)) (funext fun k => hf 18 k (by omega) (by omega)) (funext fun k => hf 19 k (by omega) (by omega)), h3.eq (fun a a1 a2 k _ => hf a k (by omega) (by omega)), ⟨e, h4.fr h1 (hf 0 5 (by omega) (by omega)) (fun a ha => hf a 0 (by omega) (by omega))⟩, e1.trans h5, hk, ⟨(hf 11 1 (by omega) (by omega)).trans h7.1, fun i hi => (hf 12 i (by omega) (by omega)).trans (h7.2 i hi)⟩, fun i hi => ?_, ⟨h9.1, h9.2.1, h9.2.2.1, h9.2.2.2.1, ho, h9.2.2.2.2.2⟩⟩
  obtain ⟨g1, g2, g3⟩ := h8 i hi
  exact ⟨(hf _ 1 (by omega) (by omega)).trans g1, (hf _ 2 (by omega) (by omega)).trans g2, fun k hk => (hf _ k (by omega) (by omega)).trans (g3 k hk)⟩
theorem CV.tape {h : AHp} {E : Sst} (hc : CV h E) {σ : Nat → Nat → Int32} (hf : ∀ a k, ¬ a = 12 → ¬ (a = 11 ∧ k = 1) → σ a k = hpI h a k) {z : Nat} {y : Nat → Int32} (ht : TpC (σ, h.2) z y) (hz : z ≤ 160) (hy : ∀ i, i < z → inR (y i) 255) : CV (σ, h.2) (setY E z y) := by
  obtain ⟨h1, h2, h3, ⟨e, h4⟩, h5, h6, h7, h8, h9⟩ := hc
  have eb : ∀ B, B = 1 ∨ B = 7 → bv (σ, h.2) B = bv h B := fun B hB => bv_ext (fun i k ho => by
    have : i ≤ 2 := by rcases ho with ⟨e, -⟩ | ⟨e, -⟩ <;> omega
    exact hf (B + i) k (by omega) (by omega))
  refine ⟨h1, h2.fr (hf 17 2 (by omega) (by omega)) (funext fun k => hf 18 k (by omega) (by omega)) (funext fun k => hf 19 k (by omega) (by omega)), h3.eq (fun a a1 a2 k _ => hf a k (by omega) (by omega)), ⟨e, h4.fr h1 (hf 0 5 (by omega) (by omega)) (fun a ha => hf a 0 (by omega) (by omega))⟩, (eb 1 (Or.inl rfl)).trans h5, ?_, ht, fun i hi => ?_, ⟨h9.1, h9.2.1, h9.2.2.1, h9.2.2.2.1, h9.2.2.2.2.1, hz, hy, h9.2.2.2.2.2.2.2⟩⟩
  · rcases h6 with ⟨z1, z2⟩ | ⟨z1, z2⟩
    · exact Or.inl ⟨z1, (hf 0 3 (by omega) (by omega)).trans z2⟩
    · exact Or.inr ⟨by rw [eb 7 (Or.inr rfl)]; exact z1, (hf 0 3 (by omega) (by omega)).trans z2⟩
  · obtain ⟨g1, g2, g3⟩ := h8 i hi
    exact ⟨(hf _ 1 (by omega) (by omega)).trans g1, (hf _ 2 (by omega) (by omega)).trans g2, fun k hk => (hf _ k (by omega) (by omega)).trans (g3 k hk)⟩
theorem CV.shts {h : AHp} {E : Sst} (hc : CV h E) {σ : Nat → Nat → Int32} (hf : ∀ a k, ¬ (30 ≤ a ∧ a ≤ 37) → σ a k = hpI h a k) {s : Nat → Int32} {l : Nat → Nat} {it : Nat → Nat → Int32} (hs : StC (σ, h.2) (setS E s l it)) (hr : ∀ i, i < 4 → l i ≤ 40 ∧ (s i = -1 ∨ s i = 0 ∨ s i = 1 ∨ s i = 2)) : CV (σ, h.2) (setS E s l it) := by
  obtain ⟨h1, h2, h3, ⟨e, h4⟩, h5, h6, h7, h8, h9⟩ := hc
  have eb : ∀ B, B = 1 ∨ B = 7 → bv (σ, h.2) B = bv h B := fun B hB => bv_ext (fun i k ho => by
    have : i ≤ 2 := by rcases ho with ⟨e, -⟩ | ⟨e, -⟩ <;> omega
    exact hf (B + i) k (by omega))
  refine ⟨h1, h2.fr (hf 17 2 (by omega)) (funext fun k => hf 18 k (by omega)) (funext fun k => hf 19 k (by omega)), h3.eq (fun a a1 a2 k _ => hf a k (by omega)), ⟨e, h4.fr h1 (hf 0 5 (by omega)) (fun a ha => hf a 0 (by omega))⟩, (eb 1 (Or.inl rfl)).trans h5, ?_, ⟨(hf 11 1 (by omega)).trans h7.1, fun i hi => (hf 12 i (by omega)).trans (h7.2 i hi)⟩, hs, ⟨h9.1, h9.2.1, h9.2.2.1, h9.2.2.2.1, h9.2.2.2.2.1, h9.2.2.2.2.2.1, h9.2.2.2.2.2.2.1, hr⟩⟩
  rcases h6 with ⟨z1, z2⟩ | ⟨z1, z2⟩
  · exact Or.inl ⟨z1, (hf 0 3 (by omega)).trans z2⟩
  · exact Or.inr ⟨by rw [eb 7 (Or.inr rfl)]; exact z1, (hf 0 3 (by omega)).trans z2⟩
def backI (E : Sst) : Int32 × Bch := match sO E with
  | none => (-3, sB E)
  | some b => (b 0 3, b)
def feedI (E : Sst) (c : Int32) : Int32 × Nat × (Nat → Int32) := if 0 ≤ c ∧ c ≤ 255 then (if sZ E < 160 then (nI (sZ E + 1), sZ E + 1, fun k => if k = sZ E then c else sY E k) else (-4, sZ E, sY E)) else (-2, sZ E, sY E)
def cellI (E : Sst) (s i v : Int32) : Int32 × (Nat → Nat → Int32) := if 0 ≤ s ∧ s ≤ 3 then (if sS E (tn s) = -1 then (-11, sI' E) else if 0 ≤ i ∧ i < nI (sL E (tn s)) then (1, up2 (sI' E) (tn s) (tn i) (nrw (sS E (tn s)) v)) else (-12, sI' E)) else (-2, sI' E)
def rgI (i n : Int32) (s : Nat) : Prop := 0 ≤ i ∧ 0 ≤ n ∧ n ≤ nI s ∧ i ≤ nI s - n
def cpyI (it : Nat → Nat → Int32) (s o i j n : Nat) : Nat → Nat → Int32 := fun a k => if a = o ∧ j ≤ k ∧ k < j + n then it s (i + (k - j)) else it a k
theorem rg_ex {i n : Int32} {s : Nat} (hs : s ≤ 40) (h : 0 ≤ i ∧ 0 ≤ n ∧ n ≤ nI s ∧ i ≤ nI s - n) : ∃ a c, i = nI a ∧ n = nI c ∧ a + c ≤ s := by
  obtain ⟨c, hc, rfl⟩ := rng_ex s (by omega) ⟨h.2.1, h.2.2.1⟩
  have h4 := h.2.2.2
  rw [pk_sub hc] at h4
  obtain ⟨a, ha, rfl⟩ := rng_ex (s - c) (by omega) ⟨h.1, h4⟩
  exact ⟨a, c, rfl, rfl, by omega⟩
def isU (x k : Nat) : Bool := decide (k = 0) || decide (x = k) || (decide (k = 1) && (decide (x = 2) || decide (x = 4))) || (decide (k = 3) && decide (x = 5))
def takenI (E : Sst) (l k : Int32) : Int32 := if 0 ≤ k ∧ k ≤ 5 then (if 0 ≤ l ∧ l < nI (sM E) then (if isU (sK E (tn l)) (tn k) = true then sN E (tn l) else -13) else -11) else -2
theorem qX11_image_0 : Dq cX11_image 0 (.aload_n 0) 1 1 := ⟨by decide +kernel, rfl⟩
theorem qX11_image_1 : Dq cX11_image 1 (.getfield 19) 3 4 := ⟨by decide +kernel, rfl⟩
theorem qX11_image_4 : Dq cX11_image 4 (.aload_n 0) 1 5 := ⟨by decide +kernel, rfl⟩
theorem qX11_image_5 : Dq cX11_image 5 (.getfield 10) 3 8 := ⟨by decide +kernel, rfl⟩
theorem qX11_image_8 : Dq cX11_image 8 (.invokevirtual 281) 3 11 := ⟨by decide +kernel, rfl⟩
theorem qX11_image_11 : Dq cX11_image 11 (.aload_n 0) 1 12 := ⟨by decide +kernel, rfl⟩
theorem qX11_image_12 : Dq cX11_image 12 (.iconst 1) 1 13 := ⟨by decide +kernel, rfl⟩
theorem qX11_image_13 : Dq cX11_image 13 (.putfield 285) 3 16 := ⟨by decide +kernel, rfl⟩
theorem qX11_image_16 : Dq cX11_image 16 (.aload_n 0) 1 17 := ⟨by decide +kernel, rfl⟩
theorem qX11_image_17 : Dq cX11_image 17 (.getfield 10) 3 20 := ⟨by decide +kernel, rfl⟩
theorem qX11_image_20 : Dq cX11_image 20 (.getfield 221) 3 23 := ⟨by decide +kernel, rfl⟩
theorem qX11_image_23 : Dq cX11_image 23 (.ireturn) 1 24 := ⟨by decide +kernel, rfl⟩
set_option maxRecDepth 100000 in
set_option maxHeartbeats 4000000 in
theorem c_image {G : Glb} {h : AHp} {E : Sst} (hc : CV h E)  : CP G m_X11_image 3 0 0 [.ref 0] h (fun r h' => r = some (.int (imageI (sB E))) ∧ ∃ σ, h' = (σ, h.2) ∧ CV (σ, h.2) (setO E (some (sB E))) ∧ K38 h σ) := by
  suffices key : ∀ P : Option Value → AHp → Prop, (∀ r h', (r = some (.int (imageI (sB E))) ∧ ∃ σ, h' = (σ, h.2) ∧ CV (σ, h.2) (setO E (some (sB E))) ∧ K38 h σ) → P r h') → CP G m_X11_image 3 0 0 [.ref 0] h P from key _ (fun _ _ z => z)
  intro P hP
  have hs := hc.sh
  have hru := hc.ru
  have hca := hc.ca
  have hbe := hc.be
  have hok := hc.ok
  obtain ⟨hrl, hrl5⟩ := hbe.rl hok.1
  rw [bv0 (by omega) (by omega)] at hrl5
  have hh3 := hbe.2.2.2.1
  rw [bv0 (by omega) (by omega)] at hh3
  refine CP.of (by decide +kernel) (Nat.le_of_ble_eq_true rfl) fun X hX hR hnm => ?_
  show V X G 1 0 0 _ 0 [some (.ref 0)] [] h
  refine v_aload_n hX rfl qX11_image_0 ?_
  refine v_getR hX g_X11_19 (hs.kd 0 rfl) (hs.rf 2 rfl) qX11_image_1 ?_
  refine v_aload_n hX rfl qX11_image_4 ?_
  refine v_getR hX g_X11_10 (hs.kd 0 rfl) (hs.rf 0 rfl) qX11_image_5 ?_
  refine v_callVq hX hR k_X11_281 (hs.kd 7 rfl) (c_become (by exact hs) (by exact (Or.inr (Or.inr rfl))) (by exact (Or.inl rfl)) (by decide)) rfl (Nat.le_of_ble_eq_true rfl) rfl (Nat.le_of_ble_eq_true rfl) ⟨Nat.le_of_ble_eq_true rfl, Nat.le_of_ble_eq_true rfl⟩ qX11_image_8 ?_
  rintro _ _ ⟨rfl, σ, rfl, hσ⟩
  have h7 := asB_bv hσ
  refine v_aload_n hX rfl qX11_image_11 ?_
  refine v_iconst hX li_1 qX11_image_12 ?_
  refine v_putZ hX (by first | exact nz_0 | exact nz_1 | exact nz_b _) p_X11_285 (hs.kd 0 rfl) (Or.inl rfl) qX11_image_13 ?_
  refine v_aload_n hX rfl qX11_image_16 ?_
  refine v_getR hX g_X11_10 (hs.kd 0 rfl) (hs.rf 0 rfl) qX11_image_17 ?_
  refine v_getIv hX g_X11_221 (Or.inl rfl) (hs.kd 1 rfl) ((congrFun (hσ.2.2.2 1 (by omega) (by omega) (by omega)) 3).trans (hc.f (by omega) (by omega))) qX11_image_20 ?_
  refine v_ireturn hX qX11_image_23 (hP _ _ ?_)
  refine ⟨rfl, (stI (σ, h.2) 0 3 1).1, rfl, hc.img (fun a k a1 a2 => ?_) (Or.inr ⟨?_, rfl⟩) (fun b hb => ?_), fun a ha => funext fun k => ?_⟩
  · show hpI (stI _ _ _ _) _ _ = _; rw [hpI_st, if_neg a2]; exact congrFun (hσ.2.2.2 a (by omega) (by omega) (by omega)) k
  · rw [show bv ((stI (σ, h.2) 0 3 1).1, h.2) 7 = bv (σ, h.2) 7 from bv_other (by omega), h7, hc.b]
  · cases hb; exact hok.2.2.2.1
  · show hpI (stI _ _ _ _) _ _ = _; rw [hpI_st, if_neg (by omega)]; exact congrFun (hσ.2.2.2 a (by omega) (by omega) (by omega)) k
theorem qX11_back_0 : Dq cX11_back 0 (.aload_n 0) 1 1 := ⟨by decide +kernel, rfl⟩
theorem qX11_back_1 : Dq cX11_back 1 (.getfield 285) 3 4 := ⟨by decide +kernel, rfl⟩
theorem qX11_back_4 : Dq cX11_back 4 (.ifCond .ne 6) 3 7 := ⟨by decide +kernel, rfl⟩
theorem qX11_back_7 : Dq cX11_back 7 (.bipush (-3)) 2 9 := ⟨by decide +kernel, rfl⟩
theorem qX11_back_9 : Dq cX11_back 9 (.ireturn) 1 10 := ⟨by decide +kernel, rfl⟩
theorem qX11_back_10 : Dq cX11_back 10 (.aload_n 0) 1 11 := ⟨by decide +kernel, rfl⟩
theorem qX11_back_11 : Dq cX11_back 11 (.getfield 10) 3 14 := ⟨by decide +kernel, rfl⟩
theorem qX11_back_14 : Dq cX11_back 14 (.aload_n 0) 1 15 := ⟨by decide +kernel, rfl⟩
theorem qX11_back_15 : Dq cX11_back 15 (.getfield 19) 3 18 := ⟨by decide +kernel, rfl⟩
theorem qX11_back_18 : Dq cX11_back 18 (.invokevirtual 281) 3 21 := ⟨by decide +kernel, rfl⟩
theorem qX11_back_21 : Dq cX11_back 21 (.aload_n 0) 1 22 := ⟨by decide +kernel, rfl⟩
theorem qX11_back_22 : Dq cX11_back 22 (.getfield 10) 3 25 := ⟨by decide +kernel, rfl⟩
theorem qX11_back_25 : Dq cX11_back 25 (.getfield 221) 3 28 := ⟨by decide +kernel, rfl⟩
theorem qX11_back_28 : Dq cX11_back 28 (.ireturn) 1 29 := ⟨by decide +kernel, rfl⟩
set_option maxRecDepth 100000 in
set_option maxHeartbeats 4000000 in
theorem c_back {G : Glb} {h : AHp} {E : Sst} (hc : CV h E)  : CP G m_X11_back 3 0 0 [.ref 0] h (fun r h' => r = some (.int (backI E).1) ∧ ∃ σ, h' = (σ, h.2) ∧ CV (σ, h.2) (setB E (backI E).2) ∧ K38 h σ) := by
  suffices key : ∀ P : Option Value → AHp → Prop, (∀ r h', (r = some (.int (backI E).1) ∧ ∃ σ, h' = (σ, h.2) ∧ CV (σ, h.2) (setB E (backI E).2) ∧ K38 h σ) → P r h') → CP G m_X11_back 3 0 0 [.ref 0] h P from key _ (fun _ _ z => z)
  intro P hP
  have hs := hc.sh
  have hru := hc.ru
  have hca := hc.ca
  have hbe := hc.be
  have hok := hc.ok
  obtain ⟨hrl, hrl5⟩ := hbe.rl hok.1
  rw [bv0 (by omega) (by omega)] at hrl5
  have hh3 := hbe.2.2.2.1
  rw [bv0 (by omega) (by omega)] at hh3
  have hkp := hc.kp
  refine CP.of (by decide +kernel) (Nat.le_of_ble_eq_true rfl) fun X hX hR hnm => ?_
  show V X G 1 0 0 _ 0 [some (.ref 0)] [] h
  refine v_aload_n hX rfl qX11_back_0 ?_
  refine v_getI hX g_X11_285 (Or.inr rfl) (hs.kd 0 rfl) qX11_back_1 ?_
  first | refine v_if_neB hX 10 qX11_back_4 rfl (fun q4 => ?_) (fun q4 => ?_) | refine v_if_ne hX 10 qX11_back_4 rfl (fun q4 => ?_) (fun q4 => ?_)
  · have hno : ¬ sO E = none := fun z => by
          rcases hkp with ⟨-, y⟩ | ⟨y, -⟩
          · exact q4 y
          · rw [y] at z; cases z
    have hso : sO E = some (bv h 7) := by rcases hkp with ⟨y, -⟩ | ⟨y, -⟩; exact absurd y hno; exact y
    have hb7 := hok.2.2.2.2.1 _ hso
    have eb7 : backI E = (bv h 7 0 3, bv h 7) := by unfold backI; rw [hso]
    refine v_aload_n hX rfl qX11_back_10 ?_
    refine v_getR hX g_X11_10 (hs.kd 0 rfl) (hs.rf 0 rfl) qX11_back_11 ?_
    refine v_aload_n hX rfl qX11_back_14 ?_
    refine v_getR hX g_X11_19 (hs.kd 0 rfl) (hs.rf 2 rfl) qX11_back_15 ?_
    refine v_callVq hX hR k_X11_281 (hs.kd 1 rfl) (c_become (by exact hs) (by exact (Or.inl rfl)) (by exact (Or.inr (Or.inr rfl))) (by decide)) rfl (Nat.le_of_ble_eq_true rfl) rfl (Nat.le_of_ble_eq_true rfl) ⟨Nat.le_of_ble_eq_true rfl, Nat.le_of_ble_eq_true rfl⟩ qX11_back_18 ?_
    rintro _ _ ⟨rfl, σ, rfl, hσ⟩
    have h1 := asB_bv hσ
    refine v_aload_n hX rfl qX11_back_21 ?_
    refine v_getR hX g_X11_10 (hs.kd 0 rfl) (hs.rf 0 rfl) qX11_back_22 ?_
    refine v_getIv hX g_X11_221 (Or.inl rfl) (hs.kd 1 rfl) (show σ 1 3 = bv h 7 0 3 by rw [← h1, bv0 (by omega) (by omega)]; rfl) qX11_back_25 ?_
    refine v_ireturn hX qX11_back_28 (hP _ _ ?_)
    rw [eb7]
    exact ⟨rfl, σ, rfl, hc.q (fun a k a1 _ _ _ => congrFun (hσ.2.2.2 a (by omega) (by omega) (by omega)) k) (hca.eq (fun a a1 a2 k _ => congrFun (hσ.2.2.2 a (by omega) (by omega) (by omega)) k)) h1 hb7, fun a ha => hσ.2.2.2 a (by omega) (by omega) (by omega)⟩
  · have hso : sO E = none := by
          rcases hkp with ⟨y, -⟩ | ⟨-, y⟩
          · exact y
          · rw [y] at q4; exact absurd q4 (by decide)
    have eb7 : backI E = (-3, sB E) := by unfold backI; rw [hso]
    refine v_bipush hX lb_n3 qX11_back_7 ?_
    refine v_ireturn hX qX11_back_9 (hP _ _ ?_)
    rw [eb7]
    exact ⟨rfl, h.1, rfl, hc, fun a _ => rfl⟩
theorem qX10_append_0 : Dq cX10_append 0 (.aload_n 0) 1 1 := ⟨by decide +kernel, rfl⟩
theorem qX10_append_1 : Dq cX10_append 1 (.getfield 27) 3 4 := ⟨by decide +kernel, rfl⟩
theorem qX10_append_4 : Dq cX10_append 4 (.sipush 160) 3 7 := ⟨by decide +kernel, rfl⟩
theorem qX10_append_7 : Dq cX10_append 7 (.if_icmp .lt 5) 3 10 := ⟨by decide +kernel, rfl⟩
theorem qX10_append_10 : Dq cX10_append 10 (.iconst 0) 1 11 := ⟨by decide +kernel, rfl⟩
theorem qX10_append_11 : Dq cX10_append 11 (.ireturn) 1 12 := ⟨by decide +kernel, rfl⟩
theorem qX10_append_12 : Dq cX10_append 12 (.aload_n 0) 1 13 := ⟨by decide +kernel, rfl⟩
theorem qX10_append_13 : Dq cX10_append 13 (.getfield 9) 3 16 := ⟨by decide +kernel, rfl⟩
theorem qX10_append_16 : Dq cX10_append 16 (.aload_n 0) 1 17 := ⟨by decide +kernel, rfl⟩
theorem qX10_append_17 : Dq cX10_append 17 (.getfield 27) 3 20 := ⟨by decide +kernel, rfl⟩
theorem qX10_append_20 : Dq cX10_append 20 (.iload_n 1) 1 21 := ⟨by decide +kernel, rfl⟩
theorem qX10_append_21 : Dq cX10_append 21 (.iastore) 1 22 := ⟨by decide +kernel, rfl⟩
theorem qX10_append_22 : Dq cX10_append 22 (.aload_n 0) 1 23 := ⟨by decide +kernel, rfl⟩
theorem qX10_append_23 : Dq cX10_append 23 (.dup) 1 24 := ⟨by decide +kernel, rfl⟩
theorem qX10_append_24 : Dq cX10_append 24 (.getfield 27) 3 27 := ⟨by decide +kernel, rfl⟩
theorem qX10_append_27 : Dq cX10_append 27 (.iconst 1) 1 28 := ⟨by decide +kernel, rfl⟩
theorem qX10_append_28 : Dq cX10_append 28 (.iadd) 1 29 := ⟨by decide +kernel, rfl⟩
theorem qX10_append_29 : Dq cX10_append 29 (.putfield 27) 3 32 := ⟨by decide +kernel, rfl⟩
theorem qX10_append_32 : Dq cX10_append 32 (.iconst 1) 1 33 := ⟨by decide +kernel, rfl⟩
theorem qX10_append_33 : Dq cX10_append 33 (.ireturn) 1 34 := ⟨by decide +kernel, rfl⟩
set_option maxRecDepth 100000 in
set_option maxHeartbeats 4000000 in
theorem c_append {G : Glb} {h : AHp} (hs : ShC h) {z : Nat} (hz : hpI h 11 1 = nI z) (hz160 : z ≤ 160) (c : Int32) : CP G m_X10_append 1 0 0 [.ref 11, .int c] h (fun r h' => (z < 160 ∧ r = some (.int 1) ∧ stI (stI h 12 z c) 11 1 (nI (z + 1)) = h') ∨ (¬ z < 160 ∧ r = some (.int 0) ∧ h = h')) := by
  suffices key : ∀ P : Option Value → AHp → Prop, (∀ r h', ((z < 160 ∧ r = some (.int 1) ∧ stI (stI h 12 z c) 11 1 (nI (z + 1)) = h') ∨ (¬ z < 160 ∧ r = some (.int 0) ∧ h = h')) → P r h') → CP G m_X10_append 1 0 0 [.ref 11, .int c] h P from key _ (fun _ _ z => z)
  intro P hP
  refine CP.of (by decide +kernel) (Nat.le_of_ble_eq_true rfl) fun X hX hR hnm => ?_
  show V X G 2 0 0 _ 0 [some (.ref 11), some (.int c)] [] h
  refine v_aload_n hX rfl qX10_append_0 ?_
  refine v_getIv hX g_X10_27 (Or.inl rfl) (hs.kd 11 rfl) hz qX10_append_1 ?_
  refine v_sipush hX ls_160 qX10_append_4 ?_
  refine v_icmp_ltS hX 12 qX10_append_7 rfl (fun q7 => ?_) (fun q7 => ?_)
  · have hl := nI_lt' (s := 160) (by omega) (by omega) q7
    refine v_aload_n hX rfl qX10_append_12 ?_
    refine v_getR hX g_X10_9 (hs.kd 11 rfl) (hs.rf 14 rfl) qX10_append_13 ?_
    refine v_aload_n hX rfl qX10_append_16 ?_
    refine v_getIv hX g_X10_27 (Or.inl rfl) (hs.kd 11 rfl) hz qX10_append_17 ?_
    refine v_iload_n hX rfl qX10_append_20 ?_
    refine v_iastJ hX (hs.kd 12 rfl) (hs.ln 12 rfl) (by exact ix_n (n := z) (by omega) rfl) qX10_append_21 ?_
    refine v_aload_n hX rfl qX10_append_22 ?_
    refine v_dup hX rfl qX10_append_23 ?_
    refine v_getIv hX g_X10_27 (Or.inl rfl) (hs.kd 11 rfl) hz qX10_append_24 ?_
    refine v_iconst hX li_1 qX10_append_27 ?_
    refine v_iadd hX qX10_append_28 ?_
    refine v_eqI (nI_1 z) ?_
    refine v_putI hX p_X10_27 (hs.kd 11 rfl) (Or.inl rfl) qX10_append_29 ?_
    refine v_iconst hX li_1 qX10_append_32 ?_
    refine v_zreturn hX (by first | exact Or.inl rfl | exact Or.inr rfl | exact bz01 _) qX10_append_33 (hP _ _ ?_)
    exact Or.inl ⟨hl, rfl, rfl⟩
  · have hl := nI_le' (i := 160) (by omega) (by omega) q7
    refine v_iconst hX li_0 qX10_append_10 ?_
    refine v_zreturn hX (by first | exact Or.inl rfl | exact Or.inr rfl | exact bz01 _) qX10_append_11 (hP _ _ ?_)
    exact Or.inr ⟨by omega, rfl, rfl⟩
theorem qX11_feed_0 : Dq cX11_feed 0 (.iload_n 1) 1 1 := ⟨by decide +kernel, rfl⟩
theorem qX11_feed_1 : Dq cX11_feed 1 (.iconst 0) 1 2 := ⟨by decide +kernel, rfl⟩
theorem qX11_feed_2 : Dq cX11_feed 2 (.sipush 255) 3 5 := ⟨by decide +kernel, rfl⟩
theorem qX11_feed_5 : Dq cX11_feed 5 (.invokestatic 110) 3 8 := ⟨by decide +kernel, rfl⟩
theorem qX11_feed_8 : Dq cX11_feed 8 (.ifCond .ne 6) 3 11 := ⟨by decide +kernel, rfl⟩
theorem qX11_feed_11 : Dq cX11_feed 11 (.bipush (-2)) 2 13 := ⟨by decide +kernel, rfl⟩
theorem qX11_feed_13 : Dq cX11_feed 13 (.ireturn) 1 14 := ⟨by decide +kernel, rfl⟩
theorem qX11_feed_14 : Dq cX11_feed 14 (.aload_n 0) 1 15 := ⟨by decide +kernel, rfl⟩
theorem qX11_feed_15 : Dq cX11_feed 15 (.getfield 31) 3 18 := ⟨by decide +kernel, rfl⟩
theorem qX11_feed_18 : Dq cX11_feed 18 (.iload_n 1) 1 19 := ⟨by decide +kernel, rfl⟩
theorem qX11_feed_19 : Dq cX11_feed 19 (.invokevirtual 75) 3 22 := ⟨by decide +kernel, rfl⟩
theorem qX11_feed_22 : Dq cX11_feed 22 (.ifCond .eq 13) 3 25 := ⟨by decide +kernel, rfl⟩
theorem qX11_feed_25 : Dq cX11_feed 25 (.aload_n 0) 1 26 := ⟨by decide +kernel, rfl⟩
theorem qX11_feed_26 : Dq cX11_feed 26 (.getfield 31) 3 29 := ⟨by decide +kernel, rfl⟩
theorem qX11_feed_29 : Dq cX11_feed 29 (.getfield 161) 3 32 := ⟨by decide +kernel, rfl⟩
theorem qX11_feed_32 : Dq cX11_feed 32 (.goto 5) 3 35 := ⟨by decide +kernel, rfl⟩
theorem qX11_feed_35 : Dq cX11_feed 35 (.bipush (-4)) 2 37 := ⟨by decide +kernel, rfl⟩
theorem qX11_feed_37 : Dq cX11_feed 37 (.ireturn) 1 38 := ⟨by decide +kernel, rfl⟩
set_option maxRecDepth 100000 in
set_option maxHeartbeats 4000000 in
theorem c_feed {G : Glb} {h : AHp} {E : Sst} (hc : CV h E) (c : Int32) : CP G m_X11_feed 3 0 0 [.ref 0, .int c] h (fun r h' => r = some (.int (feedI E c).1) ∧ ∃ σ, h' = (σ, h.2) ∧ CV (σ, h.2) (setY E (feedI E c).2.1 (feedI E c).2.2) ∧ K38 h σ) := by
  suffices key : ∀ P : Option Value → AHp → Prop, (∀ r h', (r = some (.int (feedI E c).1) ∧ ∃ σ, h' = (σ, h.2) ∧ CV (σ, h.2) (setY E (feedI E c).2.1 (feedI E c).2.2) ∧ K38 h σ) → P r h') → CP G m_X11_feed 3 0 0 [.ref 0, .int c] h P from key _ (fun _ _ z => z)
  intro P hP
  have hs := hc.sh
  have hru := hc.ru
  have hca := hc.ca
  have hbe := hc.be
  have hok := hc.ok
  obtain ⟨hrl, hrl5⟩ := hbe.rl hok.1
  rw [bv0 (by omega) (by omega)] at hrl5
  have hh3 := hbe.2.2.2.1
  rw [bv0 (by omega) (by omega)] at hh3
  refine CP.of (by decide +kernel) (Nat.le_of_ble_eq_true rfl) fun X hX hR hnm => ?_
  show V X G 2 0 0 _ 0 [some (.ref 0), some (.int c)] [] h
  refine v_iload_n hX rfl qX11_feed_0 ?_
  refine v_iconst hX li_0 qX11_feed_1 ?_
  refine v_sipush hX ls_255 qX11_feed_2 ?_
  refine v_callSq hX hR k_X11_110 (c_isWithin _ _ _) rfl (Nat.le_of_ble_eq_true rfl) rfl (Nat.le_of_ble_eq_true rfl) ⟨Nat.le_of_ble_eq_true rfl, Nat.le_of_ble_eq_true rfl⟩ qX11_feed_5 ?_
  rintro _ _ ⟨rfl, rfl⟩
  first | refine v_if_neB hX 14 qX11_feed_8 rfl (fun q8 => ?_) (fun q8 => ?_) | refine v_if_ne hX 14 qX11_feed_8 rfl (fun q8 => ?_) (fun q8 => ?_)
  · skip
    refine v_aload_n hX rfl qX11_feed_14 ?_
    refine v_getR hX g_X11_31 (hs.kd 0 rfl) (hs.rf 4 rfl) qX11_feed_15 ?_
    refine v_iload_n hX rfl qX11_feed_18 ?_
    refine v_callVq hX hR k_X11_75 (hs.kd 11 rfl) (c_append (by exact hs) (by exact hc.tp.1) (by exact hok.2.2.2.2.2.1) _) rfl (Nat.le_of_ble_eq_true rfl) rfl (Nat.le_of_ble_eq_true rfl) ⟨Nat.le_of_ble_eq_true rfl, Nat.le_of_ble_eq_true rfl⟩ qX11_feed_19 ?_
    rintro _ _ (⟨hl, rfl, rfl⟩ | ⟨hl, rfl, rfl⟩)
    · skip
      first | refine v_if_eqB hX 35 qX11_feed_22 rfl (fun q22 => ?_) (fun q22 => ?_) | refine v_if_eq hX 35 qX11_feed_22 rfl (fun q22 => ?_) (fun q22 => ?_)
      · exact absurd q22 (by decide)
      · skip
        refine v_aload_n hX rfl qX11_feed_25 ?_
        refine v_getR hX g_X11_31 (hs.kd 0 rfl) (hs.rf 4 rfl) qX11_feed_26 ?_
        refine v_getIv hX g_X11_161 (Or.inl rfl) (hs.kd 11 rfl) (show hpI (stI (stI h 12 (sZ E) c) 11 1 (nI (sZ E + 1))) 11 1 = nI (sZ E + 1) from rfl) qX11_feed_29 ?_
        refine v_goto hX 37 qX11_feed_32 rfl ?_
        refine v_ireturn hX qX11_feed_37 (hP _ _ ?_)
        rw [feedI, if_pos q8, if_pos hl]
        refine ⟨rfl, (stI (stI h 12 (sZ E) c) 11 1 (nI (sZ E + 1))).1, rfl, hc.tape (fun a k a1 a2 => ?_) ⟨rfl, fun i hi => ?_⟩ (show sZ E + 1 ≤ 160 by omega) (fun i hi => ?_), fun a ha => funext fun k => ?_⟩
        · show hpI (stI _ _ _ _) _ _ = _; rw [hpI_st, if_neg a2, hpI_st, if_neg (fun z => a1 z.1)]
        · have hi : i < sZ E + 1 := hi
          show hpI (stI (stI h 12 (sZ E) c) 11 1 (nI (sZ E + 1))) 12 i = if i = sZ E then c else sY E i
          rw [hpI_st, if_neg (by omega), hpI_st]
          by_cases e : i = sZ E
          · rw [if_pos ⟨rfl, e⟩, if_pos e]
          · rw [if_neg (fun z => e z.2), if_neg e]; exact hc.tp.2 i (by omega)
        · have hi : i < sZ E + 1 := hi
          show inR (if i = sZ E then c else sY E i) 255
          by_cases e : i = sZ E
          · rw [if_pos e]; exact inR.of (n := 255) (by omega) q8.1 q8.2
          · rw [if_neg e]; exact hok.2.2.2.2.2.2.1 i (by omega)
        · show hpI (stI _ _ _ _) _ _ = _; rw [hpI_st, if_neg (by omega), hpI_st, if_neg (by omega)]
    · skip
      first | refine v_if_eqB hX 35 qX11_feed_22 rfl (fun q22 => ?_) (fun q22 => ?_) | refine v_if_eq hX 35 qX11_feed_22 rfl (fun q22 => ?_) (fun q22 => ?_)
      · skip
        refine v_bipush hX lb_n4 qX11_feed_35 ?_
        refine v_ireturn hX qX11_feed_37 (hP _ _ ?_)
        rw [feedI, if_pos q8, if_neg hl]
        exact ⟨rfl, h.1, rfl, hc, fun a _ => rfl⟩
      · exact absurd rfl q22
  · skip
    refine v_bipush hX lb_n2 qX11_feed_11 ?_
    refine v_ireturn hX qX11_feed_13 (hP _ _ ?_)
    rw [feedI, if_neg q8]
    exact ⟨rfl, h.1, rfl, hc, fun a _ => rfl⟩
theorem qX11_cell_0 : Dq cX11_cell 0 (.aload_n 0) 1 1 := ⟨by decide +kernel, rfl⟩
theorem qX11_cell_1 : Dq cX11_cell 1 (.iload_n 1) 1 2 := ⟨by decide +kernel, rfl⟩
theorem qX11_cell_2 : Dq cX11_cell 2 (.invokevirtual 234) 3 5 := ⟨by decide +kernel, rfl⟩
theorem qX11_cell_5 : Dq cX11_cell 5 (.astore 4) 2 7 := ⟨by decide +kernel, rfl⟩
theorem qX11_cell_7 : Dq cX11_cell 7 (.aload 4) 2 9 := ⟨by decide +kernel, rfl⟩
theorem qX11_cell_9 : Dq cX11_cell 9 (.ifnonnull 6) 3 12 := ⟨by decide +kernel, rfl⟩
theorem qX11_cell_12 : Dq cX11_cell 12 (.bipush (-2)) 2 14 := ⟨by decide +kernel, rfl⟩
theorem qX11_cell_14 : Dq cX11_cell 14 (.ireturn) 1 15 := ⟨by decide +kernel, rfl⟩
theorem qX11_cell_15 : Dq cX11_cell 15 (.aload 4) 2 17 := ⟨by decide +kernel, rfl⟩
theorem qX11_cell_17 : Dq cX11_cell 17 (.invokevirtual 238) 3 20 := ⟨by decide +kernel, rfl⟩
theorem qX11_cell_20 : Dq cX11_cell 20 (.ifCond .eq 6) 3 23 := ⟨by decide +kernel, rfl⟩
theorem qX11_cell_23 : Dq cX11_cell 23 (.bipush (-11)) 2 25 := ⟨by decide +kernel, rfl⟩
theorem qX11_cell_25 : Dq cX11_cell 25 (.ireturn) 1 26 := ⟨by decide +kernel, rfl⟩
theorem qX11_cell_26 : Dq cX11_cell 26 (.aload 4) 2 28 := ⟨by decide +kernel, rfl⟩
theorem qX11_cell_28 : Dq cX11_cell 28 (.iload_n 2) 1 29 := ⟨by decide +kernel, rfl⟩
theorem qX11_cell_29 : Dq cX11_cell 29 (.invokevirtual 303) 3 32 := ⟨by decide +kernel, rfl⟩
theorem qX11_cell_32 : Dq cX11_cell 32 (.ifCond .ne 6) 3 35 := ⟨by decide +kernel, rfl⟩
theorem qX11_cell_35 : Dq cX11_cell 35 (.bipush (-12)) 2 37 := ⟨by decide +kernel, rfl⟩
theorem qX11_cell_37 : Dq cX11_cell 37 (.ireturn) 1 38 := ⟨by decide +kernel, rfl⟩
theorem qX11_cell_38 : Dq cX11_cell 38 (.aload 4) 2 40 := ⟨by decide +kernel, rfl⟩
theorem qX11_cell_40 : Dq cX11_cell 40 (.iload_n 2) 1 41 := ⟨by decide +kernel, rfl⟩
theorem qX11_cell_41 : Dq cX11_cell 41 (.iload_n 3) 1 42 := ⟨by decide +kernel, rfl⟩
theorem qX11_cell_42 : Dq cX11_cell 42 (.invokevirtual 306) 3 45 := ⟨by decide +kernel, rfl⟩
theorem qX11_cell_45 : Dq cX11_cell 45 (.iconst 1) 1 46 := ⟨by decide +kernel, rfl⟩
theorem qX11_cell_46 : Dq cX11_cell 46 (.ireturn) 1 47 := ⟨by decide +kernel, rfl⟩
set_option maxRecDepth 100000 in
set_option maxHeartbeats 4000000 in
theorem c_cell {G : Glb} {h : AHp} {E : Sst} (hc : CV h E) (s i v : Int32) : CP G m_X11_cell 4 0 0 [.ref 0, .int s, .int i, .int v] h (fun r h' => r = some (.int (cellI E s i v).1) ∧ ∃ σ, h' = (σ, h.2) ∧ CV (σ, h.2) (setS E (sS E) (sL E) (cellI E s i v).2) ∧ K38 h σ) := by
  suffices key : ∀ P : Option Value → AHp → Prop, (∀ r h', (r = some (.int (cellI E s i v).1) ∧ ∃ σ, h' = (σ, h.2) ∧ CV (σ, h.2) (setS E (sS E) (sL E) (cellI E s i v).2) ∧ K38 h σ) → P r h') → CP G m_X11_cell 4 0 0 [.ref 0, .int s, .int i, .int v] h P from key _ (fun _ _ z => z)
  intro P hP
  have hs := hc.sh
  have hru := hc.ru
  have hca := hc.ca
  have hbe := hc.be
  have hok := hc.ok
  obtain ⟨hrl, hrl5⟩ := hbe.rl hok.1
  rw [bv0 (by omega) (by omega)] at hrl5
  have hh3 := hbe.2.2.2.1
  rw [bv0 (by omega) (by omega)] at hh3
  refine CP.of (by decide +kernel) (Nat.le_of_ble_eq_true rfl) fun X hX hR hnm => ?_
  show V X G 5 0 0 _ 0 [some (.ref 0), some (.int s), some (.int i), some (.int v), none] [] h
  refine v_aload_n hX rfl qX11_cell_0 ?_
  refine v_iload_n hX rfl qX11_cell_1 ?_
  refine v_callVq hX hR k_X11_234 (hs.kd 0 rfl) (c_sheetAt (by exact hs) _) rfl (Nat.le_of_ble_eq_true rfl) rfl (Nat.le_of_ble_eq_true rfl) ⟨Nat.le_of_ble_eq_true rfl, Nat.le_of_ble_eq_true rfl⟩ qX11_cell_2 ?_
  rintro _ _ ⟨⟨j, hj, rfl, rfl⟩ | ⟨hn, rfl⟩, rfl⟩
  · obtain ⟨g1, g2, g3⟩ := hc.st j hj
    have hr3 := r3 hj
    have hl40 := (hok.2.2.2.2.2.2.2 j hj).1
    refine v_astore hX (Nat.le_of_ble_eq_true rfl) rfl (ls' := [some _, some _, some _, some _, some _]) rfl qX11_cell_5 ?_
    refine v_aload hX rfl qX11_cell_7 ?_
    refine v_ifnonnull hX 15 qX11_cell_9 rfl ?_
    refine v_aload hX rfl qX11_cell_15 ?_
    refine v_callVq hX hR k_X11_238 (hs.sk (isS_j hj)) (c_isMissing (by exact hs) (by exact (isS_j hj))) rfl (Nat.le_of_ble_eq_true rfl) rfl (Nat.le_of_ble_eq_true rfl) ⟨Nat.le_of_ble_eq_true rfl, Nat.le_of_ble_eq_true rfl⟩ qX11_cell_17 ?_
    rintro _ _ ⟨rfl, rfl⟩
    first | refine v_if_eqB hX 26 qX11_cell_20 rfl (fun q20 => ?_) (fun q20 => ?_) | refine v_if_eq hX 26 qX11_cell_20 rfl (fun q20 => ?_) (fun q20 => ?_)
    · skip
      refine v_aload hX rfl qX11_cell_26 ?_
      refine v_iload_n hX rfl qX11_cell_28 ?_
      refine v_callVq hX hR k_X11_303 (hs.sk (isS_j hj)) (c_hasItem (by exact hs) (by exact (isS_j hj)) (by exact g2) (by exact hl40) _) rfl (Nat.le_of_ble_eq_true rfl) rfl (Nat.le_of_ble_eq_true rfl) ⟨Nat.le_of_ble_eq_true rfl, Nat.le_of_ble_eq_true rfl⟩ qX11_cell_29 ?_
      rintro _ _ ⟨rfl, rfl⟩
      first | refine v_if_neB hX 38 qX11_cell_32 rfl (fun q32 => ?_) (fun q32 => ?_) | refine v_if_ne hX 38 qX11_cell_32 rfl (fun q32 => ?_) (fun q32 => ?_)
      · obtain ⟨w, hw, rfl⟩ := ofRange q32.1 q32.2 (by omega)
        refine v_aload hX rfl qX11_cell_38 ?_
        refine v_iload_n hX rfl qX11_cell_40 ?_
        refine v_iload_n hX rfl qX11_cell_41 ?_
        refine v_callVq hX hR k_X11_306 (hs.sk (isS_j hj)) (c_put (by exact hs) (by exact (isS_j hj)) (by exact g2) (by exact hl40) (by exact hw) _) rfl (Nat.le_of_ble_eq_true rfl) rfl (Nat.le_of_ble_eq_true rfl) ⟨Nat.le_of_ble_eq_true rfl, Nat.le_of_ble_eq_true rfl⟩ qX11_cell_42 ?_
        rintro _ _ ⟨rfl, rfl⟩
        refine v_iconst hX li_1 qX11_cell_45 ?_
        refine v_ireturn hX qX11_cell_46 (hP _ _ ?_)
        rw [cellI, if_pos hr3, tn_nI (show j < 2000000 by omega), tn_nI (show w < 2000000 by omega), if_neg (fun z => q20 (g1.trans z)), if_pos q32, ← g1]
        refine ⟨rfl, (stI h (30 + 2 * j + 1) w (nrw (hpI h (30 + 2 * j) 1) v)).1, rfl, hc.shts (fun a k a1 => ?_) (fun i hi => ?_) hok.2.2.2.2.2.2.2, fun a ha => funext fun k => ?_⟩
        · show hpI (stI _ _ _ _) _ _ = _; rw [hpI_st, if_neg (by omega)]
        · obtain ⟨f1, f2, f3⟩ := hc.st i hi
          refine ⟨?_, ?_, fun k hk => ?_⟩
          · show hpI (stI _ _ _ _) _ _ = _; rw [hpI_st, if_neg (by omega)]; exact f1
          · show hpI (stI _ _ _ _) _ _ = _; rw [hpI_st, if_neg (by omega)]; exact f2
          · show hpI (stI _ _ _ _) _ _ = up2 (sI' E) j w _ i k
            rw [hpI_st]
            by_cases e : i = j ∧ k = w
            · rw [if_pos ⟨by rw [e.1], e.2⟩, e.1, e.2, up2_at]
            · rw [if_neg (fun z => e ⟨by omega, z.2⟩), up2_ne e]; exact f3 k hk
        · show hpI (stI _ _ _ _) _ _ = _; rw [hpI_st, if_neg (by omega)]
      · skip
        refine v_bipush hX lb_n12 qX11_cell_35 ?_
        refine v_ireturn hX qX11_cell_37 (hP _ _ ?_)
        rw [cellI, if_pos hr3, tn_nI (show j < 2000000 by omega), if_neg (fun z => q20 (g1.trans z)), if_neg q32]
        exact ⟨rfl, h.1, rfl, hc, fun a _ => rfl⟩
    · skip
      refine v_bipush hX lb_n11 qX11_cell_23 ?_
      refine v_ireturn hX qX11_cell_25 (hP _ _ ?_)
      rw [cellI, if_pos hr3, tn_nI (show j < 2000000 by omega), if_pos (g1.symm.trans q20)]
      exact ⟨rfl, h.1, rfl, hc, fun a _ => rfl⟩
  · skip
    refine v_astoreN hX (Nat.le_of_ble_eq_true rfl) rfl (ls' := [some _, some _, some _, some _, some _]) rfl qX11_cell_5 ?_
    refine v_aloadN hX rfl qX11_cell_7 ?_
    refine v_ifnonnullN hX qX11_cell_9 ?_
    refine v_bipush hX lb_n2 qX11_cell_12 ?_
    refine v_ireturn hX qX11_cell_14 (hP _ _ ?_)
    rw [cellI, if_neg hn]
    exact ⟨rfl, h.1, rfl, hc, fun a _ => rfl⟩
