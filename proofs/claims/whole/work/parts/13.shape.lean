/-! the shapes of the two systems: which object lies at which place; no call but a constructor changes them -/
def kTC : List Nat := [11, 0, 100, 100, 0, 100, 100, 0, 100, 100, 102, 10, 100, 100, 100, 100, 100, 5, 100, 100, 100, 100, 100, 100, 100, 100, 9, 100, 100, 103, 6, 100, 6, 100, 6, 100, 6, 100]
def lTC : List Nat := [0, 0, 48, 48, 0, 48, 48, 0, 48, 48, 6, 0, 160, 161, 161, 161, 160, 0, 960, 19, 6, 31, 48, 48, 48, 48, 0, 20, 20, 4, 0, 40, 0, 40, 0, 40, 0, 40]
def rTC : List (Nat × Nat × Nat) := [(0, 0, 1), (0, 1, 4), (0, 2, 7), (0, 4, 10), (0, 6, 11), (0, 7, 17), (0, 8, 26), (0, 9, 29), (1, 0, 2), (1, 1, 3), (4, 0, 5), (4, 1, 6), (7, 0, 8), (7, 1, 9), (11, 0, 12), (11, 3, 13), (11, 4, 14), (11, 5, 15), (11, 10, 16), (17, 0, 18), (17, 1, 19), (17, 3, 20), (17, 4, 21), (17, 6, 22), (17, 7, 23), (17, 8, 24), (17, 9, 25), (26, 0, 27), (26, 1, 28), (29, 0, 30), (29, 1, 32), (29, 2, 34), (29, 3, 36), (30, 0, 31), (32, 0, 33), (34, 0, 35), (36, 0, 37)]
def ShC (h : AHp) : Prop := 38 ≤ hpN h ∧ (∀ a c, kTC[a]? = some c → hpK h a = c) ∧ (∀ a L, lTC[a]? = some L → hpL h a = L) ∧ ∀ e ∈ rTC, hpR h e.1 e.2.1 = some e.2.2
theorem ShC.kd {h : AHp} (hs : ShC h) (a : Nat) {c : Nat} (e : kTC[a]? = some c) : Kd h a c := ⟨hs.2.1 a c e, by
  have h1 := (List.getElem?_eq_some_iff.mp e).1
  have h2 : kTC.length = 38 := rfl
  have h3 := hs.1
  omega⟩
theorem ShC.ln {h : AHp} (hs : ShC h) (a : Nat) {L : Nat} (e : lTC[a]? = some L) : hpL h a = L := hs.2.2.1 a L e
theorem ShC.rf {h : AHp} (hs : ShC h) (i : Nat) {a k b : Nat} (e : rTC[i]? = some (a, k, b)) : hpR h a k = some b := hs.2.2.2 (a, k, b) (List.mem_of_getElem? e)
def isB (B : Nat) : Prop := B = 1 ∨ B = 4 ∨ B = 7
section SHB
variable {h : AHp} {B : Nat}
theorem ShC.bk (hs : ShC h) (hB : isB B) : Kd h B 0 := by rcases hB with rfl | rfl | rfl <;> exact hs.kd _ rfl
theorem ShC.bo (hs : ShC h) (hB : isB B) : hpR h B 0 = some (B + 1) := by rcases hB with rfl | rfl | rfl <;> first | exact hs.rf 8 rfl | exact hs.rf 10 rfl | exact hs.rf 12 rfl
theorem ShC.bt (hs : ShC h) (hB : isB B) : hpR h B 1 = some (B + 2) := by rcases hB with rfl | rfl | rfl <;> first | exact hs.rf 9 rfl | exact hs.rf 11 rfl | exact hs.rf 13 rfl
theorem ShC.bok (hs : ShC h) (hB : isB B) : Kd h (B + 1) 100 := by rcases hB with rfl | rfl | rfl <;> exact hs.kd _ rfl
theorem ShC.btk (hs : ShC h) (hB : isB B) : Kd h (B + 2) 100 := by rcases hB with rfl | rfl | rfl <;> exact hs.kd _ rfl
theorem ShC.bol (hs : ShC h) (hB : isB B) : hpL h (B + 1) = 48 := by rcases hB with rfl | rfl | rfl <;> exact hs.ln _ rfl
theorem ShC.btl (hs : ShC h) (hB : isB B) : hpL h (B + 2) = 48 := by rcases hB with rfl | rfl | rfl <;> exact hs.ln _ rfl
def isS (S : Nat) : Prop := S = 30 ∨ S = 32 ∨ S = 34 ∨ S = 36
theorem ShC.sk (hs : ShC h) (hS : isS B) : Kd h B 6 := by rcases hS with rfl | rfl | rfl | rfl <;> exact hs.kd _ rfl
theorem ShC.si (hs : ShC h) (hS : isS B) : hpR h B 0 = some (B + 1) := by rcases hS with rfl | rfl | rfl | rfl <;> first | exact hs.rf 33 rfl | exact hs.rf 34 rfl | exact hs.rf 35 rfl | exact hs.rf 36 rfl
theorem ShC.sik (hs : ShC h) (hS : isS B) : Kd h (B + 1) 100 := by rcases hS with rfl | rfl | rfl | rfl <;> exact hs.kd _ rfl
theorem ShC.sil (hs : ShC h) (hS : isS B) : hpL h (B + 1) = 40 := by rcases hS with rfl | rfl | rfl | rfl <;> exact hs.ln _ rfl
end SHB
def kTM : List Nat := [12, 100, 100, 100, 100, 100, 100, 100, 100, 100, 100, 100, 100, 100, 100, 100, 101, 100, 100, 100]
def lTM : List Nat := [0, 960, 6, 160, 48, 48, 6, 6, 6, 6, 48, 48, 20, 20, 48, 48, 4, 4, 4, 160]
def rTM : List (Nat × Nat × Nat) := [(38, 1, 39), (38, 2, 40), (38, 5, 41), (38, 7, 42), (38, 8, 43), (38, 12, 44), (38, 13, 45), (38, 33, 46), (38, 34, 47), (38, 35, 48), (38, 36, 49), (38, 39, 50), (38, 40, 51), (38, 44, 52), (38, 45, 53), (38, 50, 54), (38, 51, 55), (38, 52, 56), (38, 53, 57)]
def ShM (h : AHp) : Prop := 58 ≤ hpN h ∧ (∀ i c, kTM[i]? = some c → hpK h (38 + i) = c) ∧ (∀ i L, lTM[i]? = some L → hpL h (38 + i) = L) ∧ ∀ e ∈ rTM, hpR h e.1 e.2.1 = some e.2.2
theorem ShM.kd {h : AHp} (hm : ShM h) (a : Nat) {c : Nat} (e : (if a < 38 then none else kTM[a - 38]?) = some c) : Kd h a c := by
  by_cases ha : a < 38
  · rw [if_pos ha] at e; cases e
  rw [if_neg ha] at e
  have h1 := (List.getElem?_eq_some_iff.mp e).1
  have h2 : kTM.length = 20 := rfl
  have h3 := hm.1
  have h4 := hm.2.1 _ c e
  rw [show 38 + (a - 38) = a by omega] at h4
  exact ⟨h4, by omega⟩
theorem ShM.ln {h : AHp} (hm : ShM h) (a : Nat) {L : Nat} (e : (if a < 38 then none else lTM[a - 38]?) = some L) : hpL h a = L := by
  by_cases ha : a < 38
  · rw [if_pos ha] at e; cases e
  rw [if_neg ha] at e
  have h4 := hm.2.2.1 _ L e
  rwa [show 38 + (a - 38) = a by omega] at h4
theorem ShM.rf {h : AHp} (hm : ShM h) (i : Nat) {a k b : Nat} (e : rTM[i]? = some (a, k, b)) : hpR h a k = some b := hm.2.2.2 (a, k, b) (List.mem_of_getElem? e)
section VCQ
variable {X : Cx} {G : Glb} {own : String} {cc : ByteArray} {nL k n pc pc' : Nat} {rt : Option FieldType} {Q : State → Prop} {ls : List (Option Value)} {st stk : List Value} {h : AHp} {P : Option Value → AHp → Prop} {d d' mc ms kc ks : Nat} {M : Mth} {ix na : Nat} {av : List Value}
theorem v_callSq (hX : OKx X G own cc nL rt) (hR : xR X = rmC d kc ks) (hm : MS own ix M na) (hc : CP G M d' 0 0 av h P) (hsk : stk = av.reverse ++ st) (hd' : d' < d) (hlen : av.length = na) (hcat : (st.map fun v => v.category).sum ≤ 8) (hroom : k ≤ kc ∧ n ≤ ks) (hd : Dq cc pc (.invokestatic ix) 3 pc') (kk : ∀ r h', P r h' → V X G nL k n Q pc' ls (r.toList ++ st) h') : V X G nL k n Q pc ls stk h := by
  subst hsk
  exact v_callS hX hR hm hc hd' hlen hcat hroom hd kk
theorem v_callSq' (hX : OKx X G own cc nL rt) (hR : xR X = rmC d kc ks) (hm : MS own ix M na) (hc : CP G M d' mc ms av h P) (hsk : stk = av.reverse ++ st) (hd' : d' < d) (hlen : av.length = na) (hcat : (st.map fun v => v.category).sum ≤ 8) (hroom : k + mc ≤ kc ∧ n + ms ≤ ks) (hd : Dq cc pc (.invokestatic ix) 3 pc') (kk : ∀ r h', P r h' → V X G nL (k + mc) (n + ms) Q pc' ls (r.toList ++ st) h') : V X G nL k n Q pc ls stk h := by
  subst hsk
  exact v_callS' hX hR hm hc hd' hlen hcat hroom hd kk
theorem v_callNq (hX : OKx X G own cc nL rt) (hR : xR X = rmC d kc ks) (hm : MN own ix M na) (hc : CP G M d' 0 0 av h P) (hsk : stk = av.reverse ++ st) (hd' : d' < d) (hlen : av.length = na) (hcat : (st.map fun v => v.category).sum ≤ 8) (hroom : k ≤ kc ∧ n ≤ ks) (hd : Dq cc pc (.invokestatic ix) 3 pc') (kk : ∀ r h', P r h' → V X G nL k n Q pc' ls (r.toList ++ st) h') : V X G nL k n Q pc ls stk h := by
  subst hsk
  exact v_callN hX hR hm hc hd' hlen hcat hroom hd kk
theorem v_callVq {a ci : Nat} (hX : OKx X G own cc nL rt) (hR : xR X = rmC d kc ks) (hm : MV own ix ci M na) (hk : Kd h a ci) (hc : CP G M d' 0 0 (.ref a :: av) h P) (hsk : stk = av.reverse ++ .ref a :: st) (hd' : d' < d) (hlen : av.length = na) (hcat : (st.map fun v => v.category).sum ≤ 8) (hroom : k ≤ kc ∧ n ≤ ks) (hd : Dq cc pc (.invokevirtual ix) 3 pc') (kk : ∀ r h', P r h' → V X G nL k n Q pc' ls (r.toList ++ st) h') : V X G nL k n Q pc ls stk h := by
  subst hsk
  exact v_callV hX hR hm hk hc hd' hlen hcat hroom hd kk
theorem v_callVq' {a ci : Nat} (hX : OKx X G own cc nL rt) (hR : xR X = rmC d kc ks) (hm : MV own ix ci M na) (hk : Kd h a ci) (hc : CP G M d' mc ms (.ref a :: av) h P) (hsk : stk = av.reverse ++ .ref a :: st) (hd' : d' < d) (hlen : av.length = na) (hcat : (st.map fun v => v.category).sum ≤ 8) (hroom : k + mc ≤ kc ∧ n + ms ≤ ks) (hd : Dq cc pc (.invokevirtual ix) 3 pc') (kk : ∀ r h', P r h' → V X G nL (k + mc) (n + ms) Q pc' ls (r.toList ++ st) h') : V X G nL k n Q pc ls stk h := by
  subst hsk
  exact v_callV' hX hR hm hk hc hd' hlen hcat hroom hd kk
theorem v_callUq {a ci : Nat} {x : MethodName} (hX : OKx X G own cc nL rt) (hR : xR X = rmC d kc ks) (hm : MU own ix ci x M na) (hk : Kd h a ci) (hc : CP G M d' 0 0 (.ref a :: av) h P) (hsk : stk = av.reverse ++ .ref a :: st) (hd' : d' < d) (hlen : av.length = na) (hcat : (st.map fun v => v.category).sum ≤ 8) (hroom : k ≤ kc ∧ n ≤ ks) (hd : Dq cc pc (.invokevirtual ix) 3 pc') (kk : ∀ r h', P r h' → V X G nL k n Q pc' ls (r.toList ++ st) h') : V X G nL k n Q pc ls stk h := by
  subst hsk
  exact v_callU hX hR hm hk hc hd' hlen hcat hroom hd kk
theorem v_callPq {a ci : Nat} (hX : OKx X G own cc nL rt) (hR : xR X = rmC d kc ks) (hm : MP own ix ci M na) (hk : Kd h a ci) (hc : CP G M d' 0 0 (.ref a :: av) h P) (hsk : stk = av.reverse ++ .ref a :: st) (hd' : d' < d) (hlen : av.length = na) (hcat : (st.map fun v => v.category).sum ≤ 8) (hroom : k ≤ kc ∧ n ≤ ks) (hd : Dq cc pc (.invokespecial ix) 3 pc') (kk : ∀ r h', P r h' → V X G nL k n Q pc' ls (r.toList ++ st) h') : V X G nL k n Q pc ls stk h := by
  subst hsk
  exact v_callP hX hR hm hk hc hd' hlen hcat hroom hd kk
theorem v_callCq {a : Nat} (hX : OKx X G own cc nL rt) (hR : xR X = rmC d kc ks) (hm : MC own ix M na) (hc : CP G M d' mc ms (.ref a :: av) h P) (hsk : stk = av.reverse ++ .ref a :: st) (hd' : d' < d) (hlen : av.length = na) (hcat : (st.map fun v => v.category).sum ≤ 8) (hroom : k + mc ≤ kc ∧ n + ms ≤ ks) (hd : Dq cc pc (.invokespecial ix) 3 pc') (kk : ∀ r h', P r h' → V X G nL (k + mc) (n + ms) Q pc' ls (r.toList ++ st) h') : V X G nL k n Q pc ls stk h := by
  subst hsk
  exact v_callC hX hR hm hc hd' hlen hcat hroom hd kk
theorem v_callDq {a : Nat} (hX : OKx X G own cc nL rt) (hR : xR X = rmC d kc ks) (hm : MD own ix M na) (hc : CP G M d' mc ms (.ref a :: av) h P) (hsk : stk = av.reverse ++ .ref a :: st) (hd' : d' < d) (hlen : av.length = na) (hcat : (st.map fun v => v.category).sum ≤ 8) (hroom : k + mc ≤ kc ∧ n + ms ≤ ks) (hd : Dq cc pc (.invokespecial ix) 3 pc') (kk : ∀ r h', P r h' → V X G nL (k + mc) (n + ms) Q pc' ls (r.toList ++ st) h') : V X G nL k n Q pc ls stk h := by
  subst hsk
  exact v_callD hX hR hm hc hd' hlen hcat hroom hd kk
end VCQ
section VSS
variable {X : Cx} {G : Glb} {own : String} {cc : ByteArray} {nL k n pc pc' : Nat} {rt : Option FieldType} {Q : State → Prop} {ls : List (Option Value)} {st : List Value} {h : AHp} {x y : Int32} {off : Int}
theorem v_icmp_ltS (hX : OKx X G own cc nL rt) (tgt : Nat) (hd : Dq cc pc (.if_icmp .lt off) 3 pc') (ht : (pc : Int) + off = (tgt : Int)) (kt : x < y → V X G nL k n Q tgt ls st h) (kf : y ≤ x → V X G nL k n Q pc' ls st h) : V X G nL k n Q pc ls (.int y :: .int x :: st) h := v_icmp_lt hX tgt hd ht kt (fun q => kf (Int32.not_lt.mp q))
theorem v_icmp_geS (hX : OKx X G own cc nL rt) (tgt : Nat) (hd : Dq cc pc (.if_icmp .ge off) 3 pc') (ht : (pc : Int) + off = (tgt : Int)) (kt : y ≤ x → V X G nL k n Q tgt ls st h) (kf : x < y → V X G nL k n Q pc' ls st h) : V X G nL k n Q pc ls (.int y :: .int x :: st) h := v_icmp_ge hX tgt hd ht kt (fun q => kf (Int32.not_le.mp q))
theorem v_icmp_gtS (hX : OKx X G own cc nL rt) (tgt : Nat) (hd : Dq cc pc (.if_icmp .gt off) 3 pc') (ht : (pc : Int) + off = (tgt : Int)) (kt : y < x → V X G nL k n Q tgt ls st h) (kf : x ≤ y → V X G nL k n Q pc' ls st h) : V X G nL k n Q pc ls (.int y :: .int x :: st) h := v_icmp_gt hX tgt hd ht kt (fun q => kf (Int32.not_lt.mp q))
theorem v_icmp_leS (hX : OKx X G own cc nL rt) (tgt : Nat) (hd : Dq cc pc (.if_icmp .le off) 3 pc') (ht : (pc : Int) + off = (tgt : Int)) (kt : x ≤ y → V X G nL k n Q tgt ls st h) (kf : y < x → V X G nL k n Q pc' ls st h) : V X G nL k n Q pc ls (.int y :: .int x :: st) h := v_icmp_le hX tgt hd ht kt (fun q => kf (Int32.not_le.mp q))
theorem v_if_ltS (hX : OKx X G own cc nL rt) (tgt : Nat) (hd : Dq cc pc (.ifCond .lt off) 3 pc') (ht : (pc : Int) + off = (tgt : Int)) (kt : x < 0 → V X G nL k n Q tgt ls st h) (kf : 0 ≤ x → V X G nL k n Q pc' ls st h) : V X G nL k n Q pc ls (.int x :: st) h := v_if_lt hX tgt hd ht kt (fun q => kf (Int32.not_lt.mp q))
theorem v_if_geS (hX : OKx X G own cc nL rt) (tgt : Nat) (hd : Dq cc pc (.ifCond .ge off) 3 pc') (ht : (pc : Int) + off = (tgt : Int)) (kt : 0 ≤ x → V X G nL k n Q tgt ls st h) (kf : x < 0 → V X G nL k n Q pc' ls st h) : V X G nL k n Q pc ls (.int x :: st) h := v_if_ge hX tgt hd ht kt (fun q => kf (Int32.not_le.mp q))
theorem v_if_gtS (hX : OKx X G own cc nL rt) (tgt : Nat) (hd : Dq cc pc (.ifCond .gt off) 3 pc') (ht : (pc : Int) + off = (tgt : Int)) (kt : 0 < x → V X G nL k n Q tgt ls st h) (kf : x ≤ 0 → V X G nL k n Q pc' ls st h) : V X G nL k n Q pc ls (.int x :: st) h := v_if_gt hX tgt hd ht kt (fun q => kf (Int32.not_lt.mp q))
theorem v_if_leS (hX : OKx X G own cc nL rt) (tgt : Nat) (hd : Dq cc pc (.ifCond .le off) 3 pc') (ht : (pc : Int) + off = (tgt : Int)) (kt : x ≤ 0 → V X G nL k n Q tgt ls st h) (kf : 0 < x → V X G nL k n Q pc' ls st h) : V X G nL k n Q pc ls (.int x :: st) h := v_if_le hX tgt hd ht kt (fun q => kf (Int32.not_le.mp q))
theorem v_getIv (hX : OKx X G own cc nL rt) {ix ci fk t a : Nat} {v : Int32} (hf : FG own ix ci fk t) (ht : t = 0 ∨ t = 3) (hk : Kd h a ci) (he : hpI h a fk = v) (hd : Dq cc pc (.getfield ix) 3 pc') (kk : V X G nL k n Q pc' ls (.int v :: st) h) : V X G nL k n Q pc ls (.ref a :: st) h := by
  subst he
  exact v_getI hX hf ht hk hd kk
theorem v_ialdV (hX : OKx X G own cc nL rt) {a L j : Nat} {i v : Int32} (hk : Kd h a 100) (hl : hpL h a = L) (hi : IX i j L) (he : hpI h a j = v) (hd : Dq cc pc .iaload 1 pc') (kk : V X G nL k n Q pc' ls (.int v :: st) h) : V X G nL k n Q pc ls (.int i :: .ref a :: st) h := by
  subst he
  exact v_ialdJ hX hk hl hi hd kk
theorem v_zaldV (hX : OKx X G own cc nL rt) {a L j : Nat} {i v : Int32} (hk : Kd h a 101) (hl : hpL h a = L) (hi : IX i j L) (he : hpI h a j = v) (hd : Dq cc pc .baload 1 pc') (kk : V X G nL k n Q pc' ls (.int v :: st) h) : V X G nL k n Q pc ls (.int i :: .ref a :: st) h := by
  subst he
  exact v_zaldJ hX hk hl hi hd kk
/-- a value gets another name -/
theorem v_eqI {x y : Int32} (e : x = y) (kk : V X G nL k n Q pc ls (.int y :: st) h) : V X G nL k n Q pc ls (.int x :: st) h := by rw [e]; exact kk
theorem v_eqL {x y : Int64} (e : x = y) (kk : V X G nL k n Q pc ls (.long y :: st) h) : V X G nL k n Q pc ls (.long x :: st) h := by rw [e]; exact kk
theorem v_eqH {h' : AHp} (e : h = h') (kk : V X G nL k n Q pc ls st h') : V X G nL k n Q pc ls st h := by rw [e]; exact kk
end VSS
theorem leM1 {i : Int32} {s : Nat} (hs : s < 2 ^ 30) : i ≤ nI s - 1 ↔ i < nI s := by
  have h1 : (nI s - 1).toInt = (s : Int) - 1 := pk_sub_toInt (a := s) (b := 1) hs (by decide)
  rw [leI, ltI, h1, nI_toInt (by omega)]
  omega
theorem hpI_stC {h : AHp} {a b sp dp m c j : Nat} : hpI (stC h a b sp dp m) c j = if c = b ∧ dp ≤ j ∧ j < dp + m then hpI h a (sp + (j - dp)) else hpI h c j := rfl
theorem geN {i N : Nat} (hN : Nat.ble N 2000000 = true) (hi : i ≤ N) (q : nI N ≤ nI i) : i = N := by
  have hN := Nat.le_of_ble_eq_true hN
  have := (nI_leI (by omega) (by omega)).mp q
  omega
theorem ltN {i N : Nat} (hN : Nat.ble N 2000000 = true) (hi : i ≤ N) (q : nI i < nI N) : i < N := by
  have hN := Nat.le_of_ble_eq_true hN
  exact (nI_ltI (by omega) (by omega)).mp q
