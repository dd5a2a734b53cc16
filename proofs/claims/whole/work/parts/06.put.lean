section VP
variable {X : Cx} {G : Glb} {own : String} {cc : ByteArray} {nL k n pc pc' : Nat} {rt : Option FieldType} {Q : State → Prop} {ls : List (Option Value)} {st : List Value} {h : AHp}
/-- putfield, its new cell told -/
theorem w_put {p : Program} {l : Launch} {e : Env} {R : Room} {s : State} {m : MethodId} {args : Array Value} {below : List Frame} {meth : Method} {c : Code} {H : Heap} {locs : List Loc} {cells slots : Nat} {la : Array Slot} {rest : List Value} {D : va_G} {a ix ci fk : Nat} {tys : List (ClassId × FieldType)}
    (hexec : p.tables.exec = Jvm.exec) (hb : c.code = cc) {ref C : String} {T : u_T} {N : Nat} {ty : Nat → FieldType} (hts : ∀ w ∈ TG, w.before args s = true) (hc : ClOK ci C T N ty) (hown : s.vm.findClass own = some m.cls) (hK : va_K D vwCl tys s) {fs : List Value} (hat : va_at D vwCl (a, .inr (ci, fs)) H) (hk : fk < N) (hl : Cond.fieldLink own ix ref (T fk).2.1 (T fk).2.2.1 ∈ TG) (hs : (T fk).1 = ref ∨ Cond.sameField ref (T fk).1 (T fk).2.1 (T fk).2.2.1 ∈ TG)
    (hfin : (T fk).2.2.2 = false ∨ ((T fk).2.2.2 = true ∧ meth.name = "<init>" ∧ (T fk).1 = own)) {v : Value} (hn : narrow (ty fk) v = v) (hfit : fits (ty fk) v = true) (hlen : fk < fs.length) (hdg : decode cc pc = .ok (.putfield ix, 3))
    (kk : ∀ (H1 : Heap) (sl : Nat), va_at D vwCl (a, .inr (ci, fs.set fk v)) H1 → H1.size = H.size → (∀ q : Nat, q ≠ a → H1[q]? = H[q]?) → W p l e R s m args below meth c H1 (locs ++ [⟨a, sl⟩]) cells slots Q (F0 m (pc + 3) la rest)) : W p l e R s m args below meth c H locs cells slots Q (F0 m pc la (v :: .ref a :: rest)) := by
  have hsame : ∀ x, s.fieldFound? (T fk).1 (T fk).2.1 (T fk).2.2.1 = some x → s.fieldFound? ref (T fk).2.1 (T fk).2.2.1 = some x := by
    rcases hs with rfl | hs
    · exact fun x h => h
    · exact fun x h => u_same (hts _ hs) x h
  have hap := va_apart (own := own) hts hc.2.1 ty hc.2.2.1 hc.2.2.2.1 hK hc.1
  obtain ⟨r, h1, cell, q1, q2, q3, q4⟩ := hat
  have hr : r = (C, T, N) := Option.some.inj (h1.symm.trans hc.1)
  subst hr
  obtain ⟨hS, hfc, kC, hkC, hkind⟩ := hK.1 ci _ hc.1
  obtain ⟨cf, kf, fi, f, hi, hsl⟩ := hS fk hk
  have hlay := hts _ (hc.2.1 _ (u_in_lay hk))
  unfold u_lay at hlay
  have hst := (u_facts hfc hkC (u_lays hts hc.2.1 hk) hi).1
  have fin : ∀ (H' : Heap), H'[a]? = some (cell.setSlot f.slot v) → H'.size = H.size → (∀ q, q ≠ a → H'[q]? = H[q]?) → W p l e R s m args below meth c H' (locs ++ [⟨a, f.slot⟩]) cells slots Q (F0 m (pc + 3) la rest) := fun H' e1 e2 e3 => by
    rw [hsl] at e1
    exact kk H' _ ⟨_, hc.1, t_OB.to (V := updV (vp_V fs) fk v) ⟨_, e1, q2, q3, t_set q4 hap hk v⟩ (fun j _ => vp_updV_set hlen v j)⟩ e2 e3
  rcases hfin with hfin | ⟨hfin, hin2, hdecl⟩
  · rw [if_neg (by rw [hfin]; decide)] at hlay
    have h6 := u_store hfc hkC hkind hlay hi (hc.2.2.1 fk hk) hn hfit
    exact W.putK hexec hb (f := f) ⟨hown, hl |> hts _, ⟨_, _, _, hsame _ hi⟩, hst⟩ (by rw [q2]; exact h6) q1 q3 (by rw [hsl]; exact k2_hasslot (q4 fk hk)) rfl rfl hdg fin
  · rw [if_pos hfin] at hlay
    have hcf : m.cls = cf := by
      obtain ⟨_, _, c', _, _, _, -, -, hf', -, -, -, hown2, -⟩ := Cond.laysFinal_spec hlay
      have e1 : c' = cf := by have := hi.symm.trans hf'; simp at this; exact this.1.symm
      rw [hdecl] at hown2
      rw [← e1]; exact Option.some.inj (hown.symm.trans hown2)
    have h6 := u_fits hfc hkC hkind (Or.inr hlay) hi (hc.2.2.1 fk hk) hn hfit
    exact W.putFinK hexec hb hown (hts _ hl) (hsame _ hi) hst hcf hin2 (by rw [q2]; exact h6) q1 q3 (by rw [hsl]; exact k2_hasslot (q4 fk hk)) rfl rfl hdg fin
/-- putfield: h' is h with the field changed -/
theorem v_put (hX : OKx X G own cc nL rt) {ix ci fk t a : Nat} {fin : Bool} {v : Value} {h' : AHp} (hf : FL own ix ci fk t fin) (hk : Kd h a ci) (hin : fin = false ∨ (xM X).name = "<init>") (hty : ∀ ty, tyT ty = t → narrow ty (cv G v) = cv G v ∧ fits ty (cv G v) = true) (hN : hpN h' = hpN h) (hK' : hpK h' a = ci) (hv : fdv G h' a t fk = cv G v) (ho : ∀ u j, j ≠ fk → fdv G h a u j = fdv G h' a u j) (hb : ∀ b, b ≠ a → celE G h' b = celE G h b) (hd : Dq cc pc (.putfield ix) 3 pc') (kk : V X G nL k n Q pc' ls st h') : V X G nL k n Q pc ls (v :: .ref a :: st) h := by
  obtain ⟨hd, rfl⟩ := hd
  obtain ⟨C, T, N, ty, ref, hc, hN2, ht, hfin, hl, hs, hfi⟩ := hf
  intro H locs la hW hS hL
  have hat := hW.at hk
  have ead : gAd G a = gB G + a := gAd_lt (Nat.lt_trans hk.2 hW.2.1)
  rw [celE_obj hk.1 hc.2.2.2.2.2.1, ead] at hat
  have hty1 := hty (ty fk) (FL.ty (own := own) (ix := ix) hc hN2 ht)
  have hset := fls_set (G := G) (h := h) (h' := h') (a := a) (v := cv G v) (lyt ci) 0 fk t ht (by rw [Nat.zero_add]; exact hv) (fun i u _ hi => by rw [Nat.zero_add]; exact ho u i hi)
  show W _ _ _ _ _ _ _ _ _ _ H locs k n Q (F0 (xm X) pc la (cv G v :: .ref (gAd G a) :: st.map (cv G)))
  rw [ead]
  refine w_put (D := gD G) (ref := ref) hX.1 hX.2.1 hX.2.2.2.2.2.1 hc hX.2.2.2.2.1 hX.2.2.2.2.2.2.1.1 hat hN2 hl hs ?_ hty1.1 hty1.2 (by rw [fls_len, hc.2.2.2.2.1]; exact hN2) hd (fun H1 sl h1 hz oq => ?_)
  · rcases hin with rfl | hin
    · exact Or.inl hfin
    · cases fin with
      | false => exact Or.inl hfin
      | true => exact Or.inr ⟨hfin, hin, hfi rfl⟩
  · refine kk H1 _ la (hW.put hk.2 hN hz oq ?_ hb) (hS.put hz oq (Nat.le_add_right _ _)) hL
    rw [celE_obj hK' hc.2.2.2.2.2.1, ← hset]
    exact h1
theorem up2_at {α : Type} {f : Nat → Nat → α} {a i : Nat} {v : α} : up2 f a i v a i = v := if_pos ⟨rfl, rfl⟩
theorem up2_ne {α : Type} {f : Nat → Nat → α} {a i b j : Nat} {v : α} (h : ¬ (b = a ∧ j = i)) : up2 f a i v b j = f b j := if_neg h
theorem v_putI (hX : OKx X G own cc nL rt) {ix ci fk a : Nat} {fin : Bool} {x : Int32} (hf : FL own ix ci fk 0 fin) (hk : Kd h a ci) (hin : fin = false ∨ (xM X).name = "<init>") (hd : Dq cc pc (.putfield ix) 3 pc') (kk : V X G nL k n Q pc' ls st (stI h a fk x)) : V X G nL k n Q pc ls (.int x :: .ref a :: st) h :=
  v_put (h' := stI h a fk x) hX hf hk hin (fun ty ht => by rw [tyT_int ht]; exact ⟨rfl, rfl⟩) rfl hk.1 (by show Value.int (up2 h.1 a fk x a fk) = .int x; rw [up2_at]) (fun u j hj => by unfold fdv; rw [show hpI (stI h a fk x) a j = hpI h a j from up2_ne (fun z => hj z.2)]; rfl) (fun b hb => cel_stI hb) hd kk
theorem v_putZ (hX : OKx X G own cc nL rt) {ix ci fk a : Nat} {fin : Bool} {x : Int32} (hx : narrow .boolean (.int x) = .int x ∧ fits .boolean (.int x) = true) (hf : FL own ix ci fk 3 fin) (hk : Kd h a ci) (hin : fin = false ∨ (xM X).name = "<init>") (hd : Dq cc pc (.putfield ix) 3 pc') (kk : V X G nL k n Q pc' ls st (stI h a fk x)) : V X G nL k n Q pc ls (.int x :: .ref a :: st) h :=
  v_put (h' := stI h a fk x) hX hf hk hin (fun ty ht => by rw [tyT_bool ht]; exact hx) rfl hk.1 (by show Value.int (up2 h.1 a fk x a fk) = .int x; rw [up2_at]) (fun u j hj => by unfold fdv; rw [show hpI (stI h a fk x) a j = hpI h a j from up2_ne (fun z => hj z.2)]; rfl) (fun b hb => cel_stI hb) hd kk
theorem v_putJ (hX : OKx X G own cc nL rt) {ix ci fk a : Nat} {fin : Bool} {x : Int64} (hf : FL own ix ci fk 2 fin) (hk : Kd h a ci) (hin : fin = false ∨ (xM X).name = "<init>") (hd : Dq cc pc (.putfield ix) 3 pc') (kk : V X G nL k n Q pc' ls st (stJ h a fk x)) : V X G nL k n Q pc ls (.long x :: .ref a :: st) h :=
  v_put (h' := stJ h a fk x) hX hf hk hin (fun ty ht => by rw [tyT_long ht]; exact ⟨rfl, rfl⟩) rfl hk.1 (by show Value.long (up2 h.2.2.1 a fk x a fk) = .long x; rw [up2_at]) (fun u j hj => by unfold fdv; rw [show hpJ (stJ h a fk x) a j = hpJ h a j from up2_ne (fun z => hj z.2)]; rfl) (fun b hb => cel_stJ hb) hd kk
theorem v_putR (hX : OKx X G own cc nL rt) {ix ci fk a b : Nat} {fin : Bool} (hf : FL own ix ci fk 1 fin) (hk : Kd h a ci) (hin : fin = false ∨ (xM X).name = "<init>") (hd : Dq cc pc (.putfield ix) 3 pc') (kk : V X G nL k n Q pc' ls st (stR h a fk (some b))) : V X G nL k n Q pc ls (.ref b :: .ref a :: st) h :=
  v_put (h' := stR h a fk (some b)) hX hf hk hin (fun ty ht => ⟨(tyT_ref ht (Or.inr ⟨_, rfl⟩)).1, (tyT_ref ht (Or.inr ⟨_, rfl⟩)).2.1⟩) rfl hk.1 (by show va_rf ((up2 h.2.1 a fk (some b) a fk).map (gAd G)) = _; rw [up2_at]; rfl) (fun u j hj => by unfold fdv; rw [show hpR (stR h a fk (some b)) a j = hpR h a j from up2_ne (fun z => hj z.2)]; rfl) (fun b hb => cel_stR hb) hd kk
/-! arrays of ints -/
theorem Wd.ai {h : AHp} {H : Heap} (hW : Wd G h H) {a c : Nat} (hk : Kd h a c) (hc : c = 100 ∨ c = 101) : va_at (gD G) vwCl (gAd G a, .inl (gA G c, (hpL h a, .inl (hpI h a)))) H := by
  have h1 := hW.at hk
  rwa [celE_int hk.1 hc] at h1
theorem v_iald (hX : OKx X G own cc nL rt) {a L : Nat} {i : Int32} (hk : Kd h a 100) (hl : hpL h a = L) (hi : vp_in i L) (hd : Dq cc pc .iaload 1 pc') (kk : V X G nL k n Q pc' ls (.int (hpI h a i.toNatClampNeg) :: st) h) : V X G nL k n Q pc ls (.int i :: .ref a :: st) h := by
  obtain ⟨hd, rfl⟩ := hd
  subst hl
  intro H locs la hW hS hL
  exact va_iald (D := gD G) (cl := vwCl) hX.1 hX.2.1 hX.2.2.2.2.2.2.1.1 (hW.ai hk (Or.inl rfl)).here 0 0 rfl rfl hi hd (kk H locs la hW hS hL)
theorem v_zald (hX : OKx X G own cc nL rt) {a L : Nat} {i : Int32} (hk : Kd h a 101) (hl : hpL h a = L) (hi : vp_in i L) (hd : Dq cc pc .baload 1 pc') (kk : V X G nL k n Q pc' ls (.int (hpI h a i.toNatClampNeg) :: st) h) : V X G nL k n Q pc ls (.int i :: .ref a :: st) h := by
  obtain ⟨hd, rfl⟩ := hd
  subst hl
  intro H locs la hW hS hL
  exact va_zald (D := gD G) (cl := vwCl) hX.1 hX.2.1 hX.2.2.2.2.2.2.1.1 (hW.ai hk (Or.inr rfl)).here 0 1 rfl rfl hi hd (kk H locs la hW hS hL)
theorem v_alen (hX : OKx X G own cc nL rt) {a L : Nat} (hk : Kd h a 100) (hl : hpL h a = L) (hd : Dq cc pc .arraylength 1 pc') (kk : V X G nL k n Q pc' ls (.int (nI L) :: st) h) : V X G nL k n Q pc ls (.ref a :: st) h := by
  obtain ⟨hd, rfl⟩ := hd
  subst hl
  intro H locs la hW hS hL
  exact va_alen (D := gD G) (cl := vwCl) hX.1 hX.2.1 hX.2.2.2.2.2.2.1.1 (hW.ai hk (Or.inl rfl)).here 0 0 rfl rfl rfl hd (kk H locs la hW hS hL)
theorem cel_up {f : Nat → Int32} {i : Int32} {x : Int32} {cA : ClassId} {L : Nat} {g : Nat → Int32} (hg : ∀ j, g j = if j = i.toNatClampNeg then x else f j) : (arrV cA L (updV (fun j => .int (f j)) i.toNatClampNeg (.int x))) = vp_cell cA (L, .inl g) := by
  rw [vp_cell_i]
  congr 1
  funext q
  rw [hg q]
  by_cases hq : q = i.toNatClampNeg <;> simp [updV, hq]
theorem v_iast (hX : OKx X G own cc nL rt) {a L : Nat} {i x : Int32} (hk : Kd h a 100) (hl : hpL h a = L) (hi : vp_in i L) (hd : Dq cc pc .iastore 1 pc') (kk : V X G nL k n Q pc' ls st (stI h a i.toNatClampNeg x)) : V X G nL k n Q pc ls (.int x :: .int i :: .ref a :: st) h := by
  obtain ⟨hd, rfl⟩ := hd
  subst hl
  intro H locs la hW hS hL
  have ead : gAd G a = gB G + a := gAd_lt (Nat.lt_trans hk.2 hW.2.1)
  have hat : H[gAd G a]? = some (vp_cell (gA G 100) (hpL h a, .inl (hpI h a))) := hW.ai hk (Or.inl rfl)
  refine W.iast hX.1 hX.2.1 hat ((hX.2.2.2.2.2.2.1.1.2 0 _ rfl).1 (hpL h a) (fun j => .int (hpI h a j))) (fun q => by cases q) (by show ¬ (i < 0 ∨ (arrV _ _ _).slots.size ≤ _); rw [arrV_size]; exact hi) rfl rfl hd fun H1 e z oq => ?_
  rw [ead] at e oq ⊢
  refine kk H1 _ la (hW.put hk.2 rfl z oq ?_ (fun b hb => cel_stI hb)) (hS.put z oq (Nat.le_add_right _ _)) hL
  rw [celE_int (show hpK (stI h a i.toNatClampNeg x) a = 100 from hk.1) (Or.inl rfl)]
  show H1[gB G + a]? = some (vp_cell _ _)
  rw [e, vp_cell_i, arrV_store]
  congr 1
  refine cel_up (fun j => ?_)
  show up2 h.1 a i.toNatClampNeg x a j = _
  by_cases hj : j = i.toNatClampNeg
  · rw [hj, up2_at, if_pos rfl]
  · rw [up2_ne (fun z => hj z.2), if_neg hj]; rfl
theorem v_zast (hX : OKx X G own cc nL rt) {a L : Nat} {i x : Int32} (hx : narrow .boolean (.int x) = .int x) (hk : Kd h a 101) (hl : hpL h a = L) (hi : vp_in i L) (hd : Dq cc pc .bastore 1 pc') (kk : V X G nL k n Q pc' ls st (stI h a i.toNatClampNeg x)) : V X G nL k n Q pc ls (.int x :: .int i :: .ref a :: st) h := by
  obtain ⟨hd, rfl⟩ := hd
  subst hl
  intro H locs la hW hS hL
  have ead : gAd G a = gB G + a := gAd_lt (Nat.lt_trans hk.2 hW.2.1)
  have hat : H[gAd G a]? = some (vp_cell (gA G 101) (hpL h a, .inl (hpI h a))) := hW.ai hk (Or.inr rfl)
  refine W.zast hX.1 hX.2.1 hat ((hX.2.2.2.2.2.2.1.1.2 1 _ rfl).1 (hpL h a) (fun j => .int (hpI h a j))) (fun q => by cases q) (by show ¬ (i < 0 ∨ (arrV _ _ _).slots.size ≤ _); rw [arrV_size]; exact hi) rfl rfl hd fun H1 e z oq => ?_
  rw [ead] at e oq ⊢
  refine kk H1 _ la (hW.put hk.2 rfl z oq ?_ (fun b hb => cel_stI hb)) (hS.put z oq (Nat.le_add_right _ _)) hL
  rw [celE_int (show hpK (stI h a i.toNatClampNeg x) a = 101 from hk.1) (Or.inr rfl)]
  show H1[gB G + a]? = some (vp_cell _ _)
  rw [e, hx, vp_cell_i, arrV_store]
  congr 1
  refine cel_up (fun j => ?_)
  show up2 h.1 a i.toNatClampNeg x a j = _
  by_cases hj : j = i.toNatClampNeg
  · rw [hj, up2_at, if_pos rfl]
  · rw [up2_ne (fun z => hj z.2), if_neg hj]; rfl
end VP
