/-! the law: its rows -/
section LAWROWS
variable {X : Cx} {G : Glb} {own : String} {cc : ByteArray} {nL k n pc pc' : Nat} {rt : Option FieldType} {Q : State → Prop} {ls : List (Option Value)} {st stk : List Value} {h : AHp} {d' mc ms : Nat} {M : Mth} {ix na : Nat} {av : List Value} {P : Option Value → AHp → Prop}
theorem roomL (hR : xR X = room_1) (hd : d' ≤ 100) (hm : M.2.2.1 ≤ 21) : (rmC d' mc ms).frames + 1 ≤ (xR X).frames ∧ 8 + (M.2.2.1 + 11) + (rmC d' mc ms).locals ≤ (xR X).locals := by
  rw [hR]
  refine ⟨?_, ?_⟩
  · show d' + 1 ≤ 2048; omega
  · show 8 + (M.2.2.1 + 11) + 40 * d' ≤ 84000; omega
theorem fitL (hR : xR X = room_1) (hroom : k + mc ≤ 600000 ∧ n + ms ≤ 7302250) : k + mc ≤ (xR X).cells ∧ n + ms ≤ (xR X).slots := by rw [hR]; exact hroom
theorem v_callVL' {a ci : Nat} (hX : OKx X G own cc nL rt) (hR : xR X = room_1) (hm : MV own ix ci M na) (hk : Kd h a ci) (hc : CP G M d' mc ms (.ref a :: av) h P) (hsk : stk = av.reverse ++ .ref a :: st) (hd' : d' ≤ 100) (hlen : av.length = na) (hcat : (st.map fun v => v.category).sum ≤ 8) (hroom : k + mc ≤ 600000 ∧ n + ms ≤ 7302250) (hd : Dq cc pc (.invokevirtual ix) 3 pc') (kk : ∀ r h', P r h' → V X G nL (k + mc) (n + ms) Q pc' ls (r.toList ++ st) h') : V X G nL k n Q pc ls stk h := by
  subst hsk
  obtain ⟨hd, rfl⟩ := hd
  obtain ⟨hI, hl, hi, hse, ⟨T, N, hci⟩, h100⟩ := hm
  refine v_run (a := (Value.ref (gAd G a) :: av.map (cv G)).toArray) hX (fun H locs la hW hS hL => ?_) kk
  exact va_runV (bytes := M.2.1) (maxL := M.2.2.1) (ret := M.2.2.2) (n := na) (C := M.1.cls) (As := av.map (cv G)) (okFix hX) (hc (xl X)) ⟨callB_of na hX.2.2.2.2.2.1 (good_all hI.1) rfl rfl rfl (hX.2.2.2.2.2.1 _ hI.2.1) (hX.2.2.2.2.2.1 _ hl) hI.2.2.1 (roomL hR hd' hI.2.2.2), hX.2.2.2.2.2.1 _ hi, hX.2.2.2.2.2.1 _ hse⟩ (preV hX hW hk hci h100) rfl (by rw [List.length_map]; exact hlen) hL.1 (by show List.map _ _ = _; rw [map_revV]) (lv_room (catS hcat)) hd (fitL hR hroom)
theorem v_callVL {a ci : Nat} (hX : OKx X G own cc nL rt) (hR : xR X = room_1) (hm : MV own ix ci M na) (hk : Kd h a ci) (hc : CP G M d' 0 0 (.ref a :: av) h P) (hsk : stk = av.reverse ++ .ref a :: st) (hd' : d' ≤ 100) (hlen : av.length = na) (hcat : (st.map fun v => v.category).sum ≤ 8) (hroom : k ≤ 600000 ∧ n ≤ 7302250) (hd : Dq cc pc (.invokevirtual ix) 3 pc') (kk : ∀ r h', P r h' → V X G nL k n Q pc' ls (r.toList ++ st) h') : V X G nL k n Q pc ls stk h := v_callVL' hX hR hm hk hc hsk hd' hlen hcat hroom hd kk
theorem v_callCL {a : Nat} (hX : OKx X G own cc nL rt) (hR : xR X = room_1) (hm : MC own ix M na) (hc : CP G M d' mc ms (.ref a :: av) h P) (hsk : stk = av.reverse ++ .ref a :: st) (hd' : d' ≤ 100) (hlen : av.length = na) (hcat : (st.map fun v => v.category).sum ≤ 8) (hroom : k + mc ≤ 600000 ∧ n + ms ≤ 7302250) (hd : Dq cc pc (.invokespecial ix) 3 pc') (kk : ∀ r h', P r h' → V X G nL (k + mc) (n + ms) Q pc' ls (r.toList ++ st) h') : V X G nL k n Q pc ls stk h := by
  subst hsk
  obtain ⟨hd, rfl⟩ := hd
  obtain ⟨hI, hl, hi, hni, hno⟩ := hm
  refine v_run (a := (Value.ref (gAd G a) :: av.map (cv G)).toArray) hX (fun H locs la hW hS hL => ?_) kk
  exact va_runI (bytes := M.2.1) (maxL := M.2.2.1) (n := na) (As := av.map (cv G)) (okFix hX) (hc (xl X)) ⟨callB_of na hX.2.2.2.2.2.1 (good_all hI.1) (by rw [← hno]) rfl rfl (hX.2.2.2.2.2.1 _ hI.2.1) (hX.2.2.2.2.2.1 _ hl) hI.2.2.1 (roomL hR hd' hI.2.2.2), hni, hX.2.2.2.2.2.1 _ hi⟩ (preS hX hW (av := .ref a :: av)) rfl (by rw [List.length_map]; exact hlen) hL.1 (by show List.map _ _ = _; rw [map_revV]) (lv_room (catS hcat)) hd (fitL hR hroom)
theorem v_newL (hX : OKx X G own cc nL rt) (hR : xR X = room_1) {ci N : Nat} {C : String} {T : u_T} {ty : Nat → FieldType} (hc : ClOK ci C T N ty) (hl : Cond.classLink own ix C ∈ TG) (hi : Cond.instantiable C N ∈ TG) (hini : Cond.initialized C ∈ TG) (hN : hpN h + 1 < 1000000) (hroom : k + 1 ≤ 600000 ∧ n + N ≤ 7302250) (hd : Dq cc pc (.new ix) 3 pc') (kk : V X G nL (k + 1) (n + N) Q pc' ls (.ref (hpN h) :: st) (stN h ci 0)) : V X G nL k n Q pc ls st h := by
  obtain ⟨hd, rfl⟩ := hd
  intro H locs la hW hS hL
  have hts := hX.2.2.2.2.2.1
  have hKn := hX.2.2.2.2.2.2.1.1.1 ci _ hc.1
  refine W.newcK hX.1 hX.2.1 hX.2.2.2.2.1 (hts _ hl) (hts _ hi) (hts _ hini) rfl hd (by rw [hR]; exact hroom.1) (by rw [hR]; exact hroom.2) hKn.2.1 rfl fun H1 kC hkC e1 z1 o1 => ?_
  have ead : gAd G (hpN h) = H.size := by rw [gAd_lt hW.2.1]; exact hW.1.symm
  have hWn : Wd G (stN h ci 0) H1 := by
    refine hW.new hN z1 o1 ?_
    rw [celE_obj (show hpK (stN h ci 0) (hpN h) = ci from if_pos rfl) hc.2.2.2.2.2.1]
    refine ⟨_, hc.1, (u_born ty hts hc.2.1 hKn hkC e1 hc.2.2.1).to (fun j hj => ?_)⟩
    have hj2 : j < (lyt ci).length := by rw [hc.2.2.2.2.1]; exact hj
    have ht : (lyt ci)[j]? = some (lyt ci)[j] := List.getElem?_eq_getElem hj2
    have hty := FL.ty (own := own) (ix := ix) hc hj ht
    have e2 := fls_at (G := G) (h := stN h ci 0) (a := hpN h) (lyt ci) 0 j _ ht
    rw [Nat.zero_add] at e2
    show defaultValue (ty j) = (fls G (stN h ci 0) (hpN h) 0 (lyt ci)).getD j .null
    rw [List.getD, e2]
    show defaultValue (ty j) = fdv G (stN h ci 0) (hpN h) (lyt ci)[j] j
    rw [← hty]
    have f1 : hpI (stN h ci 0) (hpN h) j = 0 := if_pos rfl
    have f2 : hpR (stN h ci 0) (hpN h) j = none := if_pos rfl
    have f3 : hpJ (stN h ci 0) (hpN h) j = 0 := if_pos rfl
    unfold fdv
    rw [f1, f2, f3]
    have h9 : ∀ t, t = ty j → tyT t ≠ 9 := by
      intro t ht2 h9
      have hm : (lyt ci)[j] ∈ lyt ci := List.getElem_mem hj2
      rw [← hty, ← ht2, h9] at hm
      have hcl : ci < 13 := by
        have := (List.getElem?_eq_some_iff.mp hc.1).1
        simpa [vwCl] using this
      have hno : ∀ c, c < 13 → ¬ 9 ∈ lyt c := by decide
      exact hno ci hcl hm
    generalize hq : ty j = t at *
    cases t <;> first | rfl | exact absurd rfl (h9 _ rfl)
  have := kk H1 locs la hWn (hS.grow z1 o1) hL
  rw [List.map_cons, show cv G (.ref (hpN h)) = .ref H.size from congrArg Value.ref ead] at this
  exact this
/-- what the law's walk stands on: its machine, its room, its script of L ints -/
def LwX (X : Cx) (G : Glb) (L : Nat) (xsc : Nat → Int32) : Prop := OKx X G RL cL_law 4 ret ∧ xR X = room_1 ∧ va_X (gS G 0) L xsc (xs X) (xs X).heap ∧ gS G 0 < gB G ∧ gB G = (xs X).heap.size ∧ L ≤ 384
theorem LwX.slen {L : Nat} {xsc : Nat → Int32} (hl : LwX X G L xsc) (hd : Dq cL_law pc .arraylength 1 pc') (kk : V X G 4 k n Q pc' ls (.int (nI L) :: st) h) : V X G 4 k n Q pc ls (.ref 1000000 :: st) h := by
  obtain ⟨hX, -, hx, hb, hz, -⟩ := hl
  obtain ⟨hd, rfl⟩ := hd
  intro H locs la hW hS hL
  rw [List.map_cons, show cv G (.ref 1000000) = .ref (gS G 0) from cv_ge 0]
  exact va_slen hX.1 hX.2.1 hx (by omega) (show ¬ gB G ≤ gS G 0 by omega) hS hd (kk H locs la hW hS hL)
theorem LwX.sld {L j : Nat} {xsc : Nat → Int32} (hl : LwX X G L xsc) {x : Int32} (e : x = nI j) (hj : j < L) (hd : Dq cL_law pc .iaload 1 pc') (kk : V X G 4 k n Q pc' ls (.int (xsc j) :: st) h) : V X G 4 k n Q pc ls (.int x :: .ref 1000000 :: st) h := by
  obtain ⟨hX, -, hx, hb, hz, h384⟩ := hl
  obtain ⟨hd, rfl⟩ := hd
  subst e
  intro H locs la hW hS hL
  rw [List.map_cons, List.map_cons, show cv G (.ref 1000000) = .ref (gS G 0) from cv_ge 0]
  refine va_sld hX.1 hX.2.1 hx (by omega) (show ¬ gB G ≤ gS G 0 by omega) hS (vp_in_nI hj (by omega)) hd ?_
  rw [nI_clamp (by omega)]
  exact kk H locs la hW hS hL
end LAWROWS
