/-! a look, in words of a beach: b 1 odds, b 2 treads, b 0 bag (2), hour (3), minutes (4), rule (5) -/
def okI (i k : Nat) : Prop := ((i = 1 ∨ i = 2) ∧ k < 48) ∨ (i = 0 ∧ 2 ≤ k ∧ k < 6)
theorem okI_dec (i k : Nat) : okI i k ↔ (((decide (i = 1) || decide (i = 2)) && decide (k < 48)) || (decide (i = 0) && (decide (2 ≤ k) && decide (k < 6)))) = true := by simp [okI]
def okB (i k : Nat) : Bool := ((decide (i = 1) || decide (i = 2)) && decide (k < 48)) || (decide (i = 0) && (decide (2 ≤ k) && decide (k < 6)))
theorem okB_iff {i k : Nat} : okB i k = true ↔ okI i k := (okI_dec i k).symm
/-- the beach at B -/
def bv (h : AHp) (B : Nat) : Nat → Nat → Int32 := fun i k => if okB i k then hpI h (B + i) k else 0
theorem bv_at {h : AHp} {B i k : Nat} (ho : okI i k) : bv h B i k = hpI h (B + i) k := if_pos (okB_iff.mpr ho)
theorem bv1 {h : AHp} {B k : Nat} (hk : k < 48) : bv h B 1 k = hpI h (B + 1) k := bv_at (Or.inl ⟨Or.inl rfl, hk⟩)
theorem bv2 {h : AHp} {B k : Nat} (hk : k < 48) : bv h B 2 k = hpI h (B + 2) k := bv_at (Or.inl ⟨Or.inr rfl, hk⟩)
theorem bv0 {h : AHp} {B k : Nat} (h2 : 2 ≤ k) (h6 : k < 6) : bv h B 0 k = hpI h B k := bv_at (Or.inr ⟨rfl, h2, h6⟩)
theorem bv_ext {h h' : AHp} {B B' : Nat} (h1 : ∀ i k, okI i k → hpI h (B + i) k = hpI h' (B' + i) k) : bv h B = bv h' B' := by
  funext i k
  unfold bv
  by_cases ho : okB i k = true
  · rw [if_pos ho, if_pos ho]; exact h1 i k (okB_iff.mp ho)
  · rw [if_neg ho, if_neg ho]
theorem bv_up {h : AHp} {B i k : Nat} {v : Int32} (hB : isB B) (ho : okI i k) : bv (stI h (B + i) k v) B = up2 (bv h B) i k v := by
  funext j l
  show (if okB j l = true then hpI (stI h (B + i) k v) (B + j) l else 0) = if j = i ∧ l = k then v else if okB j l = true then hpI h (B + j) l else 0
  by_cases hj : okB j l = true
  · rw [if_pos hj, if_pos hj, hpI_st]
    by_cases e : j = i ∧ l = k
    · rw [if_pos ⟨by omega, e.2⟩, if_pos e]
    · rw [if_neg (fun z => e ⟨by omega, z.2⟩), if_neg e]
  · rw [if_neg hj]
    by_cases e : j = i ∧ l = k
    · exact absurd (okB_iff.mpr (by rw [e.1, e.2]; exact ho)) hj
    · rw [if_neg e, if_neg hj]
theorem bv_other {h : AHp} {B a k : Nat} {v : Int32} (ha : a < B ∨ B + 2 < a) : bv (stI h a k v) B = bv h B := bv_ext (fun i l ho => by
  rw [hpI_st, if_neg]
  rintro ⟨z, -⟩
  rcases ho with ⟨e, -⟩ | ⟨e, -⟩ <;> omega)
def rlB (b : Nat → Nat → Int32) : Nat := tn (b 0 5)
abbrev TVt : Type := Nat → Nat → (Nat → Int32) → Int32
def dpB (TV : TVt) (b : Nat → Nat → Int32) (q : Nat) : Int32 := dpI TV (rlB b) (nI q) (b 2 q) (b 0 3)
def seB (TV : TVt) (b : Nat → Nat → Int32) (q : Nat) : Int32 := seI TV (rlB b) (nI q) (b 2 q) (b 0 3)
def shB (TV : TVt) (b : Nat → Nat → Int32) (q : Nat) : Int32 := shI TV (rlB b) (nI q) (b 2 q) (b 0 3)
def goodB (TV : TVt) (b : Nat → Nat → Int32) (k : Nat) (nn : Int32) (q : Nat) : Int32 := if seB TV b q = 0 then bnd (fdR k nn (dpB TV b q) (shB TV b q)) 0 100 else 0
def gainB (TV : TVt) (b : Nat → Nat → Int32) (k : Nat) (nn : Int32) (q : Nat) : Int32 := b 1 q * goodB TV b k nn q / 100
def tkB (k : Nat) (nn : Int32) : Int32 := mxI 1 (tkR k nn)
def smB (k : Nat) (nn : Int32) : Int32 := mxI 0 (smR k nn)
def rateB (TV : TVt) (b : Nat → Nat → Int32) (k : Nat) (nn : Int32) (q : Nat) : Int32 := if 0 < tkB k nn then gainB TV b k nn q / tkB k nn else 0
def lookB (TV : TVt) (b : Nat → Nat → Int32) (k : Nat) (nn : Int32) (q : Nat) : Nat → Nat → Int32 :=
  up2 (up2 (up2 (up2 b 1 q (b 1 q * (100 - goodB TV b k nn q) / 100)) 2 q (mnI 99 (b 2 q + smB k nn))) 0 3 (rmI (b 0 3 + (b 0 4 + tkB k nn) / 60) 24)) 0 4 (rmI (b 0 4 + tkB k nn) 60)
def BeOK (b : Nat → Nat → Int32) (cnt : Nat) : Prop := (∀ k, k < 48 → inR (b 1 k) 999999) ∧ (∀ k, k < 48 → inR (b 2 k) 99) ∧ inR (b 0 2) 999999 ∧ inR (b 0 3) 23 ∧ inR (b 0 4) 59 ∧ ∃ rl, rl < cnt ∧ b 0 5 = nI rl
theorem BeOK.rl {b : Nat → Nat → Int32} {cnt : Nat} (h : BeOK b cnt) (hc : cnt ≤ 6) : rlB b < cnt ∧ b 0 5 = nI (rlB b) := by
  obtain ⟨rl, h1, h2⟩ := h.2.2.2.2.2
  have e : rlB b = rl := by unfold rlB; rw [h2]; exact tn_nI (by omega)
  rw [e]; exact ⟨h1, h2⟩
/-- what a look and its like leave alone -/
def FrB (h : AHp) (B : Nat) (σ : Nat → Nat → Int32) : Prop := ∀ a k, ¬ (B ≤ a ∧ a ≤ B + 2) → (a < 20 ∨ 25 < a) → ¬ (a = 17 ∧ (k = 5 ∨ 10 ≤ k)) → σ a k = hpI h a k
theorem FrV.B {h : AHp} {σ : Nat → Nat → Int32} (hf : FrV h σ) (B : Nat) : FrB h B σ := fun a k _ h2 h3 => hf a k h2 h3
theorem FrV.bv {h : AHp} {σ : Nat → Nat → Int32} (hf : FrV h σ) {B : Nat} (hB : isB B) : bv (σ, h.2) B = bv h B := bv_ext (fun i k ho => by
  have : B ≤ 7 := by rcases hB with rfl | rfl | rfl <;> omega
  have : i ≤ 2 := by rcases ho with ⟨e, -⟩ | ⟨e, -⟩ <;> omega
  exact hf (B + i) k (by omega) (by omega))
section SVW
variable {TV : TVt} {h : AHp} {B q : Nat}
theorem dpB_eq (hq : q < 48) : dpB TV (bv h B) q = dpI TV (rlB (bv h B)) (nI q) (hpI h (B + 2) q) (hpI h B 3) := by unfold dpB; rw [bv2 hq, bv0 (by omega) (by omega)]
theorem seB_eq (hq : q < 48) : seB TV (bv h B) q = seI TV (rlB (bv h B)) (nI q) (hpI h (B + 2) q) (hpI h B 3) := by unfold seB; rw [bv2 hq, bv0 (by omega) (by omega)]
theorem shB_eq (hq : q < 48) : shB TV (bv h B) q = shI TV (rlB (bv h B)) (nI q) (hpI h (B + 2) q) (hpI h B 3) := by unfold shB; rw [bv2 hq, bv0 (by omega) (by omega)]
end SVW
theorem oddsA_n {h : AHp} {B q : Nat} (hq : q < 48) : oddsA h B (nI q) = bv h B 1 q := by
  unfold oddsA
  rw [if_pos (isCn hq), tn_nI (by omega), bv1 hq]
theorem trdA_n {h : AHp} {B q : Nat} (hq : q < 48) : trdA h B (nI q) = bv h B 2 q := by
  unfold trdA
  rw [if_pos (isCn hq), tn_nI (by omega), bv2 hq]
theorem qX11_gainByLook_0 : Dq cX11_gainByLook 0 (.aload_n 0) 1 1 := ⟨by decide +kernel, rfl⟩
theorem qX11_gainByLook_1 : Dq cX11_gainByLook 1 (.getfield 38) 3 4 := ⟨by decide +kernel, rfl⟩
theorem qX11_gainByLook_4 : Dq cX11_gainByLook 4 (.aload_n 1) 1 5 := ⟨by decide +kernel, rfl⟩
theorem qX11_gainByLook_5 : Dq cX11_gainByLook 5 (.iload_n 3) 1 6 := ⟨by decide +kernel, rfl⟩
theorem qX11_gainByLook_6 : Dq cX11_gainByLook 6 (.invokevirtual 114) 3 9 := ⟨by decide +kernel, rfl⟩
theorem qX11_gainByLook_9 : Dq cX11_gainByLook 9 (.aload_n 0) 1 10 := ⟨by decide +kernel, rfl⟩
theorem qX11_gainByLook_10 : Dq cX11_gainByLook 10 (.getfield 38) 3 13 := ⟨by decide +kernel, rfl⟩
theorem qX11_gainByLook_13 : Dq cX11_gainByLook 13 (.getfield 127) 3 16 := ⟨by decide +kernel, rfl⟩
theorem qX11_gainByLook_16 : Dq cX11_gainByLook 16 (.ifCond .eq 6) 3 19 := ⟨by decide +kernel, rfl⟩
theorem qX11_gainByLook_19 : Dq cX11_gainByLook 19 (.bipush (-3)) 2 21 := ⟨by decide +kernel, rfl⟩
theorem qX11_gainByLook_21 : Dq cX11_gainByLook 21 (.ireturn) 1 22 := ⟨by decide +kernel, rfl⟩
theorem qX11_gainByLook_22 : Dq cX11_gainByLook 22 (.aload_n 0) 1 23 := ⟨by decide +kernel, rfl⟩
theorem qX11_gainByLook_23 : Dq cX11_gainByLook 23 (.aload_n 2) 1 24 := ⟨by decide +kernel, rfl⟩
theorem qX11_gainByLook_24 : Dq cX11_gainByLook 24 (.invokevirtual 145) 3 27 := ⟨by decide +kernel, rfl⟩
theorem qX11_gainByLook_27 : Dq cX11_gainByLook 27 (.istore 4) 2 29 := ⟨by decide +kernel, rfl⟩
theorem qX11_gainByLook_29 : Dq cX11_gainByLook 29 (.aload_n 1) 1 30 := ⟨by decide +kernel, rfl⟩
theorem qX11_gainByLook_30 : Dq cX11_gainByLook 30 (.iload_n 3) 1 31 := ⟨by decide +kernel, rfl⟩
theorem qX11_gainByLook_31 : Dq cX11_gainByLook 31 (.invokevirtual 118) 3 34 := ⟨by decide +kernel, rfl⟩
theorem qX11_gainByLook_34 : Dq cX11_gainByLook 34 (.iload 4) 2 36 := ⟨by decide +kernel, rfl⟩
theorem qX11_gainByLook_36 : Dq cX11_gainByLook 36 (.invokestatic 155) 3 39 := ⟨by decide +kernel, rfl⟩
theorem qX11_gainByLook_39 : Dq cX11_gainByLook 39 (.istore 5) 2 41 := ⟨by decide +kernel, rfl⟩
theorem qX11_gainByLook_41 : Dq cX11_gainByLook 41 (.aload_n 1) 1 42 := ⟨by decide +kernel, rfl⟩
theorem qX11_gainByLook_42 : Dq cX11_gainByLook 42 (.iload_n 3) 1 43 := ⟨by decide +kernel, rfl⟩
theorem qX11_gainByLook_43 : Dq cX11_gainByLook 43 (.iload 4) 2 45 := ⟨by decide +kernel, rfl⟩
theorem qX11_gainByLook_45 : Dq cX11_gainByLook 45 (.invokevirtual 378) 3 48 := ⟨by decide +kernel, rfl⟩
theorem qX11_gainByLook_48 : Dq cX11_gainByLook 48 (.aload_n 1) 1 49 := ⟨by decide +kernel, rfl⟩
theorem qX11_gainByLook_49 : Dq cX11_gainByLook 49 (.iload_n 3) 1 50 := ⟨by decide +kernel, rfl⟩
theorem qX11_gainByLook_50 : Dq cX11_gainByLook 50 (.aload_n 2) 1 51 := ⟨by decide +kernel, rfl⟩
theorem qX11_gainByLook_51 : Dq cX11_gainByLook 51 (.invokestatic 152) 3 54 := ⟨by decide +kernel, rfl⟩
theorem qX11_gainByLook_54 : Dq cX11_gainByLook 54 (.invokevirtual 258) 3 57 := ⟨by decide +kernel, rfl⟩
theorem qX11_gainByLook_57 : Dq cX11_gainByLook 57 (.aload_n 1) 1 58 := ⟨by decide +kernel, rfl⟩
theorem qX11_gainByLook_58 : Dq cX11_gainByLook 58 (.aload_n 2) 1 59 := ⟨by decide +kernel, rfl⟩
theorem qX11_gainByLook_59 : Dq cX11_gainByLook 59 (.invokestatic 149) 3 62 := ⟨by decide +kernel, rfl⟩
theorem qX11_gainByLook_62 : Dq cX11_gainByLook 62 (.invokevirtual 381) 3 65 := ⟨by decide +kernel, rfl⟩
theorem qX11_gainByLook_65 : Dq cX11_gainByLook 65 (.iload 5) 2 67 := ⟨by decide +kernel, rfl⟩
theorem qX11_gainByLook_67 : Dq cX11_gainByLook 67 (.ireturn) 1 68 := ⟨by decide +kernel, rfl⟩
set_option maxRecDepth 100000 in
set_option maxHeartbeats 4000000 in
theorem c_gainByLook {G : Glb} {h : AHp} (hs : ShC h) {cnt : Nat} {TV : Nat → Nat → (Nat → Int32) → Int32} (hru : RuOK h cnt TV) (hca : CaOK h cnt TV) {B : Nat} (hB : isB B) (hbe : BeOK (bv h B) cnt) {q : Nat} (hq : q < 48) {k a : Nat} {nn : Int32} (hk6 : k < 6) (hk : Kd h a (kcl k)) (hn : hpI h a 0 = nn) (ha : 38 ≤ a)  : CP G m_X11_gainByLook 6 0 0 [.ref 0, .ref B, .ref a, .int (nI q)] h (fun r h' => ((¬ seB TV (bv h B) q = 0 ∧ r = some (.int (-3)) ∧ ∃ σ, h' = (σ, h.2) ∧ FrV h σ ∧ CaOK (σ, h.2) cnt TV) ∨ (seB TV (bv h B) q = 0 ∧ r = some (.int (gainB TV (bv h B) k nn q)) ∧ ∃ σ, h' = (σ, h.2) ∧ FrB h B σ ∧ CaOK (σ, h.2) cnt TV ∧ bv (σ, h.2) B = lookB TV (bv h B) k nn q))) := by
  suffices key : ∀ P : Option Value → AHp → Prop, (∀ r h', (((¬ seB TV (bv h B) q = 0 ∧ r = some (.int (-3)) ∧ ∃ σ, h' = (σ, h.2) ∧ FrV h σ ∧ CaOK (σ, h.2) cnt TV) ∨ (seB TV (bv h B) q = 0 ∧ r = some (.int (gainB TV (bv h B) k nn q)) ∧ ∃ σ, h' = (σ, h.2) ∧ FrB h B σ ∧ CaOK (σ, h.2) cnt TV ∧ bv (σ, h.2) B = lookB TV (bv h B) k nn q))) → P r h') → CP G m_X11_gainByLook 6 0 0 [.ref 0, .ref B, .ref a, .int (nI q)] h P from key _ (fun _ _ z => z)
  intro P hP
  refine CP.of (by decide +kernel) (Nat.le_of_ble_eq_true rfl) fun X hX hR hnm => ?_
  show V X G 6 0 0 _ 0 [some (.ref 0), some (.ref B), some (.ref a), some (.int (nI q)), none, none] [] h
  have hB8 : B ≤ 7 := by rcases hB with rfl | rfl | rfl <;> omega
  have hc6 := hru.2.1
  obtain ⟨hrl, hrl5⟩ := hbe.rl hc6
  rw [bv0 (by omega) (by omega)] at hrl5
  have ht2 := hbe.2.1 q hq
  rw [bv2 hq] at ht2
  have hh3 := hbe.2.2.2.1
  rw [bv0 (by omega) (by omega)] at hh3
  refine v_aload_n hX rfl qX11_gainByLook_0 ?_
  refine v_getR hX g_X11_38 (hs.kd 0 rfl) (hs.rf 5 rfl) qX11_gainByLook_1 ?_
  refine v_aload_n hX rfl qX11_gainByLook_4 ?_
  refine v_iload_n hX rfl qX11_gainByLook_5 ?_
  refine v_callVq hX hR k_X11_114 (hs.kd 17 rfl) (c_survey (by exact hs) (by exact hru) (by exact hca) (by exact hB) (by exact hq) (by exact hrl) (by exact hrl5) (by exact ht2) (by exact hh3)) rfl (Nat.le_of_ble_eq_true rfl) rfl (Nat.le_of_ble_eq_true rfl) ⟨Nat.le_of_ble_eq_true rfl, Nat.le_of_ble_eq_true rfl⟩ qX11_gainByLook_6 ?_
  rintro _ _ ⟨rfl, σ, rfl, hfv, hca2, hd10, hd11, hd12⟩
  rw [← dpB_eq hq] at hd10
  rw [← seB_eq hq] at hd11
  rw [← shB_eq hq] at hd12
  have hbv : bv (σ, h.2) B = bv h B := hfv.bv hB
  have hn2 : σ a 0 = nn := (hfv a 0 (by omega) (by omega)).trans hn
  refine v_aload_n hX rfl qX11_gainByLook_9 ?_
  refine v_getR hX g_X11_38 (hs.kd 0 rfl) (hs.rf 5 rfl) qX11_gainByLook_10 ?_
  refine v_getIv hX g_X11_127 (Or.inr rfl) (hs.kd 17 rfl) hd11 qX11_gainByLook_13 ?_
  first | refine v_if_eqB hX 22 qX11_gainByLook_16 rfl (fun q16 => ?_) (fun q16 => ?_) | refine v_if_eq hX 22 qX11_gainByLook_16 rfl (fun q16 => ?_) (fun q16 => ?_)
  · have hse : seB TV (bv h B) q = 0 := Classical.byContradiction fun z => q16 z
    refine v_aload_n hX rfl qX11_gainByLook_22 ?_
    refine v_aload_n hX rfl qX11_gainByLook_23 ?_
    refine v_callVq hX hR k_X11_145 (hs.kd 0 rfl) (c_goodHere (by exact hs) (by exact hk6) (by exact hk) (by exact hn2)) rfl (Nat.le_of_ble_eq_true rfl) rfl (Nat.le_of_ble_eq_true rfl) ⟨Nat.le_of_ble_eq_true rfl, Nat.le_of_ble_eq_true rfl⟩ qX11_gainByLook_24 ?_
    rintro _ _ ⟨rfl, rfl⟩
    refine v_eqI (show _ = goodB TV (bv h B) k nn q by
      show (if σ 17 11 = 0 then bnd (fdR k nn (σ 17 10) (σ 17 12)) 0 100 else 0) = _
      rw [hd10, hd11, hd12, bz_f (fun z => z hse), if_pos rfl, goodB, if_pos hse]) ?_
    refine v_istore hX (Nat.le_of_ble_eq_true rfl) rfl (ls' := [some _, some _, some _, some _, some _, none]) rfl qX11_gainByLook_27 ?_
    refine v_aload_n hX rfl qX11_gainByLook_29 ?_
    refine v_iload_n hX rfl qX11_gainByLook_30 ?_
    refine v_callVq hX hR k_X11_118 (hs.bk hB) (c_oddsAt (by exact hs) (by exact hB) _) rfl (Nat.le_of_ble_eq_true rfl) rfl (Nat.le_of_ble_eq_true rfl) ⟨Nat.le_of_ble_eq_true rfl, Nat.le_of_ble_eq_true rfl⟩ qX11_gainByLook_31 ?_
    rintro _ _ ⟨rfl, rfl⟩
    refine v_iload hX rfl qX11_gainByLook_34 ?_
    refine v_callSq hX hR k_X11_155 (c_gainOf _ _) rfl (Nat.le_of_ble_eq_true rfl) rfl (Nat.le_of_ble_eq_true rfl) ⟨Nat.le_of_ble_eq_true rfl, Nat.le_of_ble_eq_true rfl⟩ qX11_gainByLook_36 ?_
    rintro _ _ ⟨rfl, rfl⟩
    refine v_eqI (show _ = gainB TV (bv h B) k nn q by rw [oddsA_n hq, hbv]; rfl) ?_
    refine v_istore hX (Nat.le_of_ble_eq_true rfl) rfl (ls' := [some _, some _, some _, some _, some _, some _]) rfl qX11_gainByLook_39 ?_
    refine v_aload_n hX rfl qX11_gainByLook_41 ?_
    refine v_iload_n hX rfl qX11_gainByLook_42 ?_
    refine v_iload hX rfl qX11_gainByLook_43 ?_
    refine v_callVq hX hR k_X11_378 (hs.bk hB) (c_thinOdds (by exact hs) (by exact hB) (by exact (isCn hq)) _) rfl (Nat.le_of_ble_eq_true rfl) rfl (Nat.le_of_ble_eq_true rfl) ⟨Nat.le_of_ble_eq_true rfl, Nat.le_of_ble_eq_true rfl⟩ qX11_gainByLook_45 ?_
    rintro _ _ ⟨rfl, rfl⟩
    refine v_aload_n hX rfl qX11_gainByLook_48 ?_
    refine v_iload_n hX rfl qX11_gainByLook_49 ?_
    refine v_aload_n hX rfl qX11_gainByLook_50 ?_
    refine v_callSq hX hR k_X11_152 (c_stampsOf (by exact hs) (by exact hk6) (by exact hk) (by exact (show hpI (stI (σ, h.2) (B + 1) _ _) a 0 = nn by rw [hpI_st, if_neg (by omega)]; exact hn2))) rfl (Nat.le_of_ble_eq_true rfl) rfl (Nat.le_of_ble_eq_true rfl) ⟨Nat.le_of_ble_eq_true rfl, Nat.le_of_ble_eq_true rfl⟩ qX11_gainByLook_51 ?_
    rintro _ _ ⟨rfl, rfl⟩
    refine v_callVq hX hR k_X11_258 (hs.bk hB) (c_addTreads (by exact hs) (by exact hB) (by exact (isCn hq)) _) rfl (Nat.le_of_ble_eq_true rfl) rfl (Nat.le_of_ble_eq_true rfl) ⟨Nat.le_of_ble_eq_true rfl, Nat.le_of_ble_eq_true rfl⟩ qX11_gainByLook_54 ?_
    rintro _ _ ⟨rfl, rfl⟩
    refine v_aload_n hX rfl qX11_gainByLook_57 ?_
    refine v_aload_n hX rfl qX11_gainByLook_58 ?_
    refine v_callSq hX hR k_X11_149 (c_takesOf (by exact hs) (by exact hk6) (by exact hk) (by exact (show hpI (stI (stI (σ, h.2) (B + 1) _ _) (B + 2) _ _) a 0 = nn by rw [hpI_st, if_neg (by omega), hpI_st, if_neg (by omega)]; exact hn2))) rfl (Nat.le_of_ble_eq_true rfl) rfl (Nat.le_of_ble_eq_true rfl) ⟨Nat.le_of_ble_eq_true rfl, Nat.le_of_ble_eq_true rfl⟩ qX11_gainByLook_59 ?_
    rintro _ _ ⟨rfl, rfl⟩
    refine v_callVq hX hR k_X11_381 (hs.bk hB) (c_pass (by exact hs) (by exact hB) _) rfl (Nat.le_of_ble_eq_true rfl) rfl (Nat.le_of_ble_eq_true rfl) ⟨Nat.le_of_ble_eq_true rfl, Nat.le_of_ble_eq_true rfl⟩ qX11_gainByLook_62 ?_
    rintro _ _ ⟨rfl, rfl⟩
    refine v_iload hX rfl qX11_gainByLook_65 ?_
    refine v_ireturn hX qX11_gainByLook_67 (hP _ _ ?_)
    refine Or.inr ⟨hse, rfl, _, rfl, fun a k h1 h2 h3 => ?_, ?_, ?_⟩
    · show hpI (stI _ _ _ _) _ _ = _
      rw [hpI_st, if_neg (by omega), hpI_st, if_neg (by omega), hpI_st, if_neg (by omega), hpI_st, if_neg (by omega)]
      exact hfv a k h2 h3
    · refine hca2.eq (fun a h1 h2 k hk => ?_)
      show hpI (stI _ _ _ _) _ _ = _
      rw [hpI_st, if_neg (by omega), hpI_st, if_neg (by omega), hpI_st, if_neg (by omega), hpI_st, if_neg (by omega)]
    · show bv (stI (stI (stI (stI (σ, h.2) _ _ _) _ _ _) (B + 0) 3 _) (B + 0) 4 _) B = _
      rw [bv_up hB (Or.inr ⟨rfl, by omega, by omega⟩), bv_up hB (Or.inr ⟨rfl, by omega, by omega⟩), tn_nI (by omega), bv_up hB (Or.inl ⟨Or.inr rfl, hq⟩), bv_up hB (Or.inl ⟨Or.inl rfl, hq⟩), hbv, lookB]
      unfold psH psM tkB smB
      have e1 : ∀ k, 2 ≤ k → k < 6 → σ B k = bv h B 0 k := fun k h1 h2 => (hfv B k (by omega) (by omega)).trans (bv0 h1 h2).symm
      have e2 : hpI (σ, h.2) (B + 1) q = bv h B 1 q := (hfv (B + 1) q (by omega) (by omega)).trans (bv1 hq).symm
      have e3 : hpI (σ, h.2) (B + 2) q = bv h B 2 q := (hfv (B + 2) q (by omega) (by omega)).trans (bv2 hq).symm
      have e4 : ∀ x y : Int32, ∀ i j k', hpI (stI (stI (σ, h.2) (B + 1) i x) (B + 2) j y) B k' = σ B k' := fun x y i j k' => by rw [hpI_st, if_neg (by omega), hpI_st, if_neg (by omega)]; rfl
      have e5 : ∀ x : Int32, ∀ i, hpI (stI (σ, h.2) (B + 1) i x) (B + 2) q = hpI (σ, h.2) (B + 2) q := fun x i => by rw [hpI_st, if_neg (by omega)]
      rw [e4, e4, e1 3 (by omega) (by omega), e1 4 (by omega) (by omega), e5, e2, e3]
  · skip
    refine v_bipush hX lb_n3 qX11_gainByLook_19 ?_
    refine v_ireturn hX qX11_gainByLook_21 (hP _ _ ?_)
    exact Or.inl ⟨q16, rfl, σ, rfl, hfv, hca2⟩
