section VC
variable {X : Cx} {G : Glb} {own : String} {cc : ByteArray} {nL k n pc pc' : Nat} {rt : Option FieldType} {Q : State → Prop} {ls : List (Option Value)} {st : List Value} {h : AHp} {P : Option Value → AHp → Prop} {d d' mc ms kc ks : Nat} {M : Mth} {ix na : Nat} {av : List Value}
theorem okFix (hX : OKx X G own cc nL rt) : CallFix (xp X) (xm X) (xc X) cc nL (xs X) (xa X) TG own := ⟨hX.1, hX.2.1, hX.2.2.2.1, hX.2.2.2.2.1, hX.2.2.2.2.2.1⟩
theorem fitR (hR : xR X = rmC d kc ks) (hroom : k + mc ≤ kc ∧ n + ms ≤ ks) : k + mc ≤ (xR X).cells ∧ n + ms ≤ (xR X).slots := by rw [hR]; exact hroom
theorem preS (hX : OKx X G own cc nL rt) {H : Heap} (hW : Wd G h H) : PreS (xs X) H (Pcx G av h) (av.map (cv G)) := ⟨blind G av h, fun U hU hw => ⟨rfl, by rw [hU]; exact hW, hX.2.2.2.2.2.2.1.warm hw⟩⟩
/-- a static method of the own class -/
def MS (own : String) (ix : Nat) (M : Mth) (na : Nat) : Prop := MI M na ∧ Cond.methodLink own ix M.1 ∈ TG ∧ Cond.static M.1 ∈ TG
theorem v_callS' (hX : OKx X G own cc nL rt) (hR : xR X = rmC d kc ks) (hm : MS own ix M na) (hc : CP G M d' mc ms av h P) (hd' : d' < d) (hlen : av.length = na) (hcat : (st.map fun v => v.category).sum ≤ 8) (hroom : k + mc ≤ kc ∧ n + ms ≤ ks) (hd : Dq cc pc (.invokestatic ix) 3 pc') (kk : ∀ r h', P r h' → V X G nL (k + mc) (n + ms) Q pc' ls (r.toList ++ st) h') : V X G nL k n Q pc ls (av.reverse ++ st) h := by
  obtain ⟨hd, rfl⟩ := hd
  obtain ⟨hI, hl, hs⟩ := hm
  refine v_run (a := (av.map (cv G)).toArray) hX (fun H locs la hW hS hL => ?_) kk
  exact va_runS (bytes := M.2.1) (maxL := M.2.2.1) (ret := M.2.2.2) (n := na) (As := av.map (cv G)) (okFix hX) (hc (xl X)) ⟨callB_of na hX.2.2.2.2.2.1 (good_all hI.1) rfl rfl rfl (hX.2.2.2.2.2.1 _ hI.2.1) (hX.2.2.2.2.2.1 _ hl) hI.2.2.1 (roomC hR hd' hI.2.2.2), hX.2.2.2.2.2.1 _ hs⟩ (preS hX hW) rfl (by rw [List.length_map]; exact hlen) hL.1 (by show List.map _ _ = _; rw [map_rev]) (lv_room (catS hcat)) hd (fitR hR hroom)
theorem v_callS (hX : OKx X G own cc nL rt) (hR : xR X = rmC d kc ks) (hm : MS own ix M na) (hc : CP G M d' 0 0 av h P) (hd' : d' < d) (hlen : av.length = na) (hcat : (st.map fun v => v.category).sum ≤ 8) (hroom : k ≤ kc ∧ n ≤ ks) (hd : Dq cc pc (.invokestatic ix) 3 pc') (kk : ∀ r h', P r h' → V X G nL k n Q pc' ls (r.toList ++ st) h') : V X G nL k n Q pc ls (av.reverse ++ st) h := v_callS' hX hR hm hc hd' hlen hcat hroom hd kk
/-- a static method of a nest mate -/
def MN (own : String) (ix : Nat) (M : Mth) (na : Nat) : Prop := MI M na ∧ (∃ host, Cond.methodLinkNest own ix M.1 host ∈ lw_tbl) ∧ Cond.static M.1 ∈ TG
theorem v_callN (hX : OKx X G own cc nL rt) (hR : xR X = rmC d kc ks) (hm : MN own ix M na) (hc : CP G M d' 0 0 av h P) (hd' : d' < d) (hlen : av.length = na) (hcat : (st.map fun v => v.category).sum ≤ 8) (hroom : k ≤ kc ∧ n ≤ ks) (hd : Dq cc pc (.invokestatic ix) 3 pc') (kk : ∀ r h', P r h' → V X G nL k n Q pc' ls (r.toList ++ st) h') : V X G nL k n Q pc ls (av.reverse ++ st) h := by
  obtain ⟨hd, rfl⟩ := hd
  obtain ⟨hI, ⟨host, hl⟩, hs⟩ := hm
  refine v_run (mc := 0) (ms := 0) (a := (av.map (cv G)).toArray) hX (fun H locs la hW hS hL => ?_) kk
  exact va_runSN (bytes := M.2.1) (maxL := M.2.2.1) (ret := M.2.2.2) (n := na) (As := av.map (cv G)) (okFix hX) (hc (xl X)) ⟨va_cnB na hX.2.2.2.2.2.1 (good_all hI.1) rfl rfl rfl (hX.2.2.2.2.2.2.1.2.1 _ hl rfl) (hX.2.2.2.2.2.1 _ hI.2.1) hI.2.2.1 (roomC hR hd' hI.2.2.2), hX.2.2.2.2.2.1 _ hs, trivial⟩ (preS hX hW) rfl (by rw [List.length_map]; exact hlen) hL.1 (by show List.map _ _ = _; rw [map_rev]) (lv_room (catS hcat)) hd (fitR (mc := 0) (ms := 0) hR hroom)
theorem recvC (hX : OKx X G own cc nL rt) {H : Heap} (hW : Wd G h H) {a ci : Nat} {C : String} {T : u_T} {N : Nat} (hk : Kd h a ci) (hci : vwCl[ci]? = some (C, T, N)) (h100 : ci < 100) : ∃ cell : Cell, H[gAd G a]? = some cell ∧ cell.vm.isStatics = false ∧ (xs X).vm.findClass C = some cell.cls := by
  have hat := hW.at hk
  rw [celE_obj hk.1 h100] at hat
  exact va_recv (q := (C, T, N)) hX.2.2.2.2.2.2.1.1 hat.here hci (q0 := 0) rfl
theorem preV (hX : OKx X G own cc nL rt) {H : Heap} (hW : Wd G h H) {a ci : Nat} {C : String} {T : u_T} {N : Nat} (hk : Kd h a ci) (hci : vwCl[ci]? = some (C, T, N)) (h100 : ci < 100) : PreV (xs X) H C (gAd G a) (Pcx G (.ref a :: av) h) (av.map (cv G)) := ⟨blind G _ h, recvC hX hW hk hci h100, fun U hU hw => ⟨rfl, by rw [hU]; exact hW, hX.2.2.2.2.2.2.1.warm hw⟩⟩
/-- a method of the class ci, called on an object of just that class -/
def MV (own : String) (ix ci : Nat) (M : Mth) (na : Nat) : Prop := MI M na ∧ Cond.methodLink own ix M.1 ∈ TG ∧ Cond.instanceMethod M.1 ∈ TG ∧ Cond.selects M.1.cls M.1 M.1 ∈ TG ∧ (∃ T N, vwCl[ci]? = some (M.1.cls, T, N)) ∧ ci < 100
theorem map_revV {G : Glb} {av st : List Value} {a : Nat} : (av.reverse ++ .ref a :: st).map (cv G) = (av.map (cv G)).reverse ++ .ref (gAd G a) :: st.map (cv G) := by simp [cv]
theorem v_callV' {a ci : Nat} (hX : OKx X G own cc nL rt) (hR : xR X = rmC d kc ks) (hm : MV own ix ci M na) (hk : Kd h a ci) (hc : CP G M d' mc ms (.ref a :: av) h P) (hd' : d' < d) (hlen : av.length = na) (hcat : (st.map fun v => v.category).sum ≤ 8) (hroom : k + mc ≤ kc ∧ n + ms ≤ ks) (hd : Dq cc pc (.invokevirtual ix) 3 pc') (kk : ∀ r h', P r h' → V X G nL (k + mc) (n + ms) Q pc' ls (r.toList ++ st) h') : V X G nL k n Q pc ls (av.reverse ++ .ref a :: st) h := by
  obtain ⟨hd, rfl⟩ := hd
  obtain ⟨hI, hl, hi, hse, ⟨T, N, hci⟩, h100⟩ := hm
  refine v_run (a := (Value.ref (gAd G a) :: av.map (cv G)).toArray) hX (fun H locs la hW hS hL => ?_) kk
  exact va_runV (bytes := M.2.1) (maxL := M.2.2.1) (ret := M.2.2.2) (n := na) (C := M.1.cls) (As := av.map (cv G)) (okFix hX) (hc (xl X)) ⟨callB_of na hX.2.2.2.2.2.1 (good_all hI.1) rfl rfl rfl (hX.2.2.2.2.2.1 _ hI.2.1) (hX.2.2.2.2.2.1 _ hl) hI.2.2.1 (roomC hR hd' hI.2.2.2), hX.2.2.2.2.2.1 _ hi, hX.2.2.2.2.2.1 _ hse⟩ (preV hX hW hk hci h100) rfl (by rw [List.length_map]; exact hlen) hL.1 (by show List.map _ _ = _; rw [map_revV]) (lv_room (catS hcat)) hd (fitR hR hroom)
theorem v_callV {a ci : Nat} (hX : OKx X G own cc nL rt) (hR : xR X = rmC d kc ks) (hm : MV own ix ci M na) (hk : Kd h a ci) (hc : CP G M d' 0 0 (.ref a :: av) h P) (hd' : d' < d) (hlen : av.length = na) (hcat : (st.map fun v => v.category).sum ≤ 8) (hroom : k ≤ kc ∧ n ≤ ks) (hd : Dq cc pc (.invokevirtual ix) 3 pc') (kk : ∀ r h', P r h' → V X G nL k n Q pc' ls (r.toList ++ st) h') : V X G nL k n Q pc ls (av.reverse ++ .ref a :: st) h := v_callV' hX hR hm hk hc hd' hlen hcat hroom hd kk
/-- a method named of a class above, called on an object of class ci, which selects M -/
def MU (own : String) (ix ci : Nat) (x : MethodName) (M : Mth) (na : Nat) : Prop := MI M na ∧ Cond.methodLink own ix x ∈ TG ∧ Cond.sameMethod x.cls x.cls x.name x.desc ∈ TG ∧ Cond.instanceMethod ⟨x.cls, x.name, x.desc⟩ ∈ TG ∧ (∃ C T N, vwCl[ci]? = some (C, T, N) ∧ Cond.selects C x M.1 ∈ TG) ∧ Cond.instanceMethod M.1 ∈ TG ∧ ci < 100 ∧ (x.cls ≠ "java/lang/invoke/MethodHandle" ∧ x.cls ≠ "java/lang/invoke/VarHandle" ∧ (parseMethodDescriptor x.desc).map (fun d => d.parameters.length) = some na) ∧ ∃ cb ml rx, Cond.code ⟨x.cls, x.name, x.desc⟩ cb ml rx ∈ TG
theorem v_callU {a ci : Nat} {x : MethodName} (hX : OKx X G own cc nL rt) (hR : xR X = rmC d kc ks) (hm : MU own ix ci x M na) (hk : Kd h a ci) (hc : CP G M d' 0 0 (.ref a :: av) h P) (hd' : d' < d) (hlen : av.length = na) (hcat : (st.map fun v => v.category).sum ≤ 8) (hroom : k ≤ kc ∧ n ≤ ks) (hd : Dq cc pc (.invokevirtual ix) 3 pc') (kk : ∀ r h', P r h' → V X G nL k n Q pc' ls (r.toList ++ st) h') : V X G nL k n Q pc ls (av.reverse ++ .ref a :: st) h := by
  obtain ⟨hd, rfl⟩ := hd
  obtain ⟨hI, hl, hsm, hix, ⟨C, T, N, hci, hse⟩, hi, h100, hdx, cb, ml, rx, hcx⟩ := hm
  refine v_run (mc := 0) (ms := 0) (a := (Value.ref (gAd G a) :: av.map (cv G)).toArray) hX (fun H locs la hW hS hL => ?_) kk
  have hG : GoodIn TG (va_wsO own ix C x.cls x M.1 (wsM M)) := by
    intro w hw
    rcases List.mem_append.mp hw with hw | hw
    · have : w ∈ TG := by
        simp only [List.mem_cons, List.not_mem_nil, or_false] at hw
        rcases hw with rfl | rfl | rfl | rfl | rfl | rfl
        · exact hl
        · exact hsm
        · exact hix
        · exact hse
        · exact hi
        · exact hI.2.1
      exact ⟨this, good_of_word (tg_good this)⟩
    · exact good_all hI.1 w hw
  exact va_runU (bytes := M.2.1) (maxL := M.2.2.1) (ret := M.2.2.2) (n := na) (C := C) (owner := x.cls) (As := av.map (cv G)) (okFix hX) (hc (xl X)) (va_cwO na hX.2.2.2.2.2.1 hG rfl rfl rfl hcx hdx (roomC hR hd' hI.2.2.2)) (preV hX hW hk hci h100) rfl (by rw [List.length_map]; exact hlen) hL.1 (by show List.map _ _ = _; rw [map_revV]) (lv_room (catS hcat)) hd (fitR (mc := 0) (ms := 0) hR hroom)
/-- super.m() -/
def MP (own : String) (ix ci : Nat) (M : Mth) (na : Nat) : Prop := MI M na ∧ Cond.methodLink own ix M.1 ∈ TG ∧ Cond.sameMethod M.1.cls M.1.cls M.1.name M.1.desc ∈ TG ∧ Cond.superclass own M.1.cls ∈ TG ∧ Cond.instanceMethod M.1 ∈ TG ∧ (∃ C T N, vwCl[ci]? = some (C, T, N)) ∧ ci < 100 ∧ M.1.name ≠ "<init>"
theorem v_callP {a ci : Nat} (hX : OKx X G own cc nL rt) (hR : xR X = rmC d kc ks) (hm : MP own ix ci M na) (hk : Kd h a ci) (hc : CP G M d' 0 0 (.ref a :: av) h P) (hd' : d' < d) (hlen : av.length = na) (hcat : (st.map fun v => v.category).sum ≤ 8) (hroom : k ≤ kc ∧ n ≤ ks) (hd : Dq cc pc (.invokespecial ix) 3 pc') (kk : ∀ r h', P r h' → V X G nL k n Q pc' ls (r.toList ++ st) h') : V X G nL k n Q pc ls (av.reverse ++ .ref a :: st) h := by
  obtain ⟨hd, rfl⟩ := hd
  obtain ⟨hI, hl, hsm, hsu, hi, ⟨C, T, N, hci⟩, h100, hno⟩ := hm
  refine v_run (mc := 0) (ms := 0) (a := (Value.ref (gAd G a) :: av.map (cv G)).toArray) hX (fun H locs la hW hS hL => ?_) kk
  have hG : GoodIn TG (va_wsSU own ix M.1 (wsM M)) := by
    intro w hw
    rcases List.mem_append.mp hw with hw | hw
    · have : w ∈ TG := by
        simp only [List.mem_cons, List.not_mem_nil, or_false] at hw
        rcases hw with rfl | rfl | rfl | rfl | rfl
        · exact hl
        · exact hsm
        · exact hsu
        · exact hi
        · exact hI.2.1
      exact ⟨this, good_of_word (tg_good this)⟩
    · exact good_all hI.1 w hw
  exact va_runSU (bytes := M.2.1) (maxL := M.2.2.1) (ret := M.2.2.2) (n := na) (C := C) (As := av.map (cv G)) (hX.2.2.2.2.2.2.1.1.1 ci _ hci).2 (okFix hX) (hc (xl X)) (va_cwSU na hX.2.2.2.2.2.1 hG rfl rfl rfl ⟨hno, hI.2.2.1.2.2⟩ (roomC hR hd' hI.2.2.2)) (preV hX hW hk hci h100) rfl (by rw [List.length_map]; exact hlen) hL.1 (by show List.map _ _ = _; rw [map_revV]) (lv_room (catS hcat)) hd (fitR (mc := 0) (ms := 0) hR hroom)
/-- a constructor -/
def MC (own : String) (ix : Nat) (M : Mth) (na : Nat) : Prop := MI M na ∧ Cond.methodLink own ix M.1 ∈ TG ∧ Cond.instanceMethod M.1 ∈ TG ∧ M.1.name = "<init>" ∧ M.2.2.2 = none
theorem v_callC {a : Nat} (hX : OKx X G own cc nL rt) (hR : xR X = rmC d kc ks) (hm : MC own ix M na) (hc : CP G M d' mc ms (.ref a :: av) h P) (hd' : d' < d) (hlen : av.length = na) (hcat : (st.map fun v => v.category).sum ≤ 8) (hroom : k + mc ≤ kc ∧ n + ms ≤ ks) (hd : Dq cc pc (.invokespecial ix) 3 pc') (kk : ∀ r h', P r h' → V X G nL (k + mc) (n + ms) Q pc' ls (r.toList ++ st) h') : V X G nL k n Q pc ls (av.reverse ++ .ref a :: st) h := by
  obtain ⟨hd, rfl⟩ := hd
  obtain ⟨hI, hl, hi, hni, hno⟩ := hm
  refine v_run (a := (Value.ref (gAd G a) :: av.map (cv G)).toArray) hX (fun H locs la hW hS hL => ?_) kk
  exact va_runI (bytes := M.2.1) (maxL := M.2.2.1) (n := na) (As := av.map (cv G)) (okFix hX) (hc (xl X)) ⟨callB_of na hX.2.2.2.2.2.1 (good_all hI.1) (by rw [← hno]) rfl rfl (hX.2.2.2.2.2.1 _ hI.2.1) (hX.2.2.2.2.2.1 _ hl) hI.2.2.1 (roomC hR hd' hI.2.2.2), hni, hX.2.2.2.2.2.1 _ hi⟩ (preS hX hW (av := .ref a :: av)) rfl (by rw [List.length_map]; exact hlen) hL.1 (by show List.map _ _ = _; rw [map_revV]) (lv_room (catS hcat)) hd (fitR hR hroom)
/-- a nest mate's private constructor -/
def MD (own : String) (ix : Nat) (M : Mth) (na : Nat) : Prop := MI M na ∧ (∃ host, Cond.methodLinkNest own ix M.1 host ∈ lw_tbl) ∧ Cond.instanceMethod M.1 ∈ TG ∧ M.1.name = "<init>" ∧ M.2.2.2 = none
theorem v_callD {a : Nat} (hX : OKx X G own cc nL rt) (hR : xR X = rmC d kc ks) (hm : MD own ix M na) (hc : CP G M d' mc ms (.ref a :: av) h P) (hd' : d' < d) (hlen : av.length = na) (hcat : (st.map fun v => v.category).sum ≤ 8) (hroom : k + mc ≤ kc ∧ n + ms ≤ ks) (hd : Dq cc pc (.invokespecial ix) 3 pc') (kk : ∀ r h', P r h' → V X G nL (k + mc) (n + ms) Q pc' ls (r.toList ++ st) h') : V X G nL k n Q pc ls (av.reverse ++ .ref a :: st) h := by
  obtain ⟨hd, rfl⟩ := hd
  obtain ⟨hI, ⟨host, hl⟩, hi, hni, hno⟩ := hm
  refine v_run (a := (Value.ref (gAd G a) :: av.map (cv G)).toArray) hX (fun H locs la hW hS hL => ?_) kk
  exact va_runIN (bytes := M.2.1) (maxL := M.2.2.1) (n := na) (As := av.map (cv G)) (okFix hX) (hc (xl X)) ⟨va_cnB na hX.2.2.2.2.2.1 (good_all hI.1) (by rw [← hno]) rfl rfl (hX.2.2.2.2.2.2.1.2.1 _ hl rfl) (hX.2.2.2.2.2.1 _ hI.2.1) hI.2.2.1 (roomC hR hd' hI.2.2.2), hni, hX.2.2.2.2.2.1 _ hi⟩ (preS hX hW (av := .ref a :: av)) rfl (by rw [List.length_map]; exact hlen) hL.1 (by show List.map _ _ = _; rw [map_revV]) (lv_room (catS hcat)) hd (fitR hR hroom)
end VC
