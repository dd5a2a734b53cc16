/-! the claim: its words (begun from the skeleton of the kit), and the start -/
def R_law : String := "RingInSandLaw"
def lw_P (b : Addr) (xs : List Int32) (args : Array Value) (s : State) : Prop := args = #[.ref b] ∧ s.IntsAt b xs ∧ xs.length ≤ 384 ∧ (Jvm.Cond.and given_1 narrow_1).before args s = true
def lw_Q (_ : Array Value) (s : State) (o : Outcome) (t : State) : Prop := o = .returned (some (.int 1)) ∧ Framed s o t [] 600000 7302250
def lw_Z (below : List Frame) (a : Array Value) (s : State) : State → Prop := fun t => ∃ o, t.status = .running ∧ Ended t below o ∧ lw_Q a s o t
/-- the law's own end, with 1 on the stack, nothing written that was there before, its room as the claim has it -/
theorem lw_ret {p : Program} {l : Launch} {e : Env} {s : State} {m : MethodId} {below : List Frame} {meth : Method} {c : Code} {b : Nat} (hx : p.tables.exec = Jvm.exec) (hb : c.code = code) (hr : meth.sig.returnType = ret) (hlocks : meth.locks = false) {pc : Nat} {H : Heap} {ls : Array Slot} (hdg : decode code pc = .ok (.ireturn, 1)) : W p l e room_1 s m #[Value.ref b] below meth c H [] 600000 7302250 (lw_Z below #[Value.ref b] s) (F0 m pc ls [.int 1]) := by
  intro T hT X
  obtain ⟨fs, hret, hrun, hended, hW, hframe⟩ := X.leave (v := some (.int 1)) (hlocks := hlocks) (fun h => by rw [hr] at h; cases h)
  have hmeth' : T.vm.method? m = some meth := X.method'
  refine ⟨T.setFrames fs, ?_, .returned (some (.int 1)), hrun, hended, rfl, ⟨_, rfl⟩, hW, hframe⟩
  jvm_step X.here [X.here.top, hx, hb, hdg, hmeth', hr, ret, narrow_b1]
  (try refine ⟨rfl, ?_⟩); (try refine ⟨rfl, ?_⟩)
  first | (intro acts; rw [hret _ acts rfl rfl rfl]) | rw [hret _ _ rfl rfl rfl]
  exact Steps.refl _
/-- what holds at the law's entry: the machine, the code, the tables' words (any of lw_tbl by 'hts w (by decide +kernel)'), the script of L ints xs at the cell b, what the Statement gives of the start (any of its parts by flat_of_before) -/
def lw_At (p : Program) (s : State) (m : MethodId) (meth : Method) (c : Code) (b L : Nat) (xs : Nat → Int32) : Prop :=
  p.tables.exec = Jvm.exec ∧ c.code = code ∧ meth.sig.returnType = ret ∧ c.maxLocals = 4 ∧ s.vm.findClass R_law = some m.cls ∧ (∀ w ∈ lw_tbl, w.before #[Value.ref b] s = true) ∧ va_X b L xs s s.heap ∧ b < s.heap.size ∧ meth.locks = false ∧ (Jvm.Cond.and given_1 narrow_1).before #[Value.ref b] s = true
/-- what the Statement gives of the start, part by part -/
def nFl : List Cond := flatC (Jvm.Cond.and given_1 narrow_1)
def tmO (i : Nat) : String × Nat × String × List Int32 := sTab.getD i ("", 0, "", [])
def tmS (i : Nat) : Term := .string (tmO i).1 (tmO i).2.1
def sBs (i : Nat) : Nat := [186, 192, 199, 211, 223, 236, 249, 264, 279, 297, 313, 331, 117].getD i 0
def sSr (i : Nat) : Nat := [295, 302, 303, 304, 305, 306, 315, 316, 317, 318, 319, 320, 215].getD i 0
theorem nf_ex : ∀ i, i < 13 → nFl[sBs i]? = some (Cond.exactly (tmS i) "java/lang/String") := by decide +kernel
theorem nf_co : ∀ i, i < 13 → nFl[sBs i + 1]? = some (Cond.eq (.field (tmS i) "java/lang/String" "coder" "B") (.int 0)) := by decide +kernel
theorem nf_ar : ∀ i, i < 13 → nFl[sBs i + 2]? = some (Cond.arrayOf (.field (tmS i) "java/lang/String" "value" "[B") .byte) := by decide +kernel
theorem nf_le : ∀ i, i < 13 → nFl[sBs i + 3]? = some (Cond.eq (.length (.field (tmS i) "java/lang/String" "value" "[B")) (.int (Int32.ofNat (sLen.getD i 0)))) := by decide +kernel
theorem nf_el : ∀ i, i < 13 → ∀ j, j < sLen.getD i 0 → nFl[sBs i + 4 + j]? = some (Cond.eq (.elem (.field (tmS i) "java/lang/String" "value" "[B") (.int (Int32.ofNat j))) (.int ((sByt.getD i []).getD j 0))) := by decide +kernel
theorem nf_ne : ∀ j, j < 13 → ∀ i, i < j → nFl[if j = 12 then sBs i + 4 + sLen.getD i 0 else sBs j + 5 + sLen.getD j 0 + i]? = some (if j = 12 then Cond.not (Cond.eq (tmS j) (tmS i)) else Cond.not (Cond.eq (tmS i) (tmS j))) := by decide +kernel
theorem nf_nc : ∀ q ∈ ncL, Cond.not (Cond.castable q.1 q.2) ∈ nFl := by decide +kernel
theorem nf_z1 : nFl[4]? = some (Cond.eq (.static "java/lang/String" "COMPACT_STRINGS" "Z") (.int 1)) := by decide +kernel
theorem nf_z2 : nFl[5]? = some (Cond.isRef (.static "jdk/internal/util/Preconditions" "SIOOBE_FORMATTER" "Ljava/util/function/BiFunction;")) := by decide +kernel
theorem tb_of {w : Cond} (i : Nat) (h : tables_1[i]? = some w) : w ∈ lw_tbl := List.mem_append.mpr (Or.inr (List.mem_of_getElem? h))
theorem tw_sr : ∀ i, i < 13 → tables_1[sSr i]? = some (Cond.stringRef (tmO i).1 (tmO i).2.1 (tmO i).2.2.1) := by decide +kernel
theorem tw_z1 : Cond.laysStatic "java/lang/String" "COMPACT_STRINGS" "Z" ∈ lw_tbl := tb_of 225 (by decide +kernel)
theorem tw_z2 : Cond.laysStatic "jdk/internal/util/Preconditions" "SIOOBE_FORMATTER" "Ljava/util/function/BiFunction;" ∈ lw_tbl := tb_of 241 (by decide +kernel)
theorem tw_i1 : Cond.initialized "java/lang/String" ∈ lw_tbl := tb_of 7 (by decide +kernel)
theorem tw_i2 : Cond.initialized "jdk/internal/util/Preconditions" ∈ lw_tbl := tb_of 9 (by decide +kernel)
theorem tw_a1 : Cond.arrayOver (.object RX1) ∈ lw_tbl := tb_of 65 (by decide +kernel)
theorem tw_a6 : Cond.arrayOver (.object RX6) ∈ lw_tbl := tb_of 196 (by decide +kernel)
theorem tw_ai : Cond.arrayClass .int ∈ lw_tbl := tb_of 63 (by decide +kernel)
theorem tw_az : Cond.arrayClass .boolean ∈ lw_tbl := tb_of 1162 (by decide +kernel)
section START
variable {args : Array Value} {s : State}
theorem nst_tab (hts : ∀ w ∈ lw_tbl, w.before args s = true) : ∀ w ∈ lw_tbl, nstW w = true → va_Nw w s := by
  intro w hw hn
  have h1 := hts w hw
  cases w <;> first | exact va_Nw.of rfl h1 | cases hn
theorem cls_ok : ∀ (c : Nat) (q : vw_C), vwCl[c]? = some q → (∀ w ∈ u_ws q.1 q.2.1 q.2.2, w ∈ TG) ∧ ∃ n, Cond.instantiable q.1 n ∈ TG := by
  intro c q hq
  match c, hq with
  | 0, hq => cases hq; exact ⟨ok_c0.2.1, _, inst_c0⟩
  | 1, hq => cases hq; exact ⟨ok_c1.2.1, _, inst_c1⟩
  | 2, hq => cases hq; exact ⟨ok_c2.2.1, _, inst_c2⟩
  | 3, hq => cases hq; exact ⟨ok_c3.2.1, _, inst_c3⟩
  | 4, hq => cases hq; exact ⟨ok_c4.2.1, _, inst_c4⟩
  | 5, hq => cases hq; exact ⟨ok_c5.2.1, _, inst_c5⟩
  | 6, hq => cases hq; exact ⟨ok_c6.2.1, _, inst_c6⟩
  | 7, hq => cases hq; exact ⟨ok_c7.2.1, _, inst_c7⟩
  | 8, hq => cases hq; exact ⟨ok_c8.2.1, _, inst_c8⟩
  | 9, hq => cases hq; exact ⟨ok_c9.2.1, _, inst_c9⟩
  | 10, hq => cases hq; exact ⟨ok_c10.2.1, _, inst_c10⟩
  | 11, hq => cases hq; exact ⟨ok_c11.2.1, _, inst_c11⟩
  | 12, hq => cases hq; exact ⟨ok_c12.2.1, _, inst_c12⟩
  | k + 13, hq => simp [vwCl] at hq
theorem cls_all (hts : ∀ w ∈ TG, w.before args s = true) : ∃ (dC : Nat → ClassId) (dI : Nat → Nat → Nat), ∀ (c : Nat) (q : vw_C), vwCl[c]? = some q → u_Kn s q.1 q.2.1 q.2.2 (dC c) (dI c) := by
  have h : ∀ c : Nat, ∃ d : ClassId × (Nat → Nat), ∀ q : vw_C, vwCl[c]? = some q → u_Kn s q.1 q.2.1 q.2.2 d.1 d.2 := by
    intro c
    cases hc : vwCl[c]? with
    | none => exact ⟨(0, fun _ => 0), fun q z => by cases z⟩
    | some q =>
      obtain ⟨h1, n, h2⟩ := cls_ok c q hc
      obtain ⟨a, i, h3⟩ := u_known hts h1 (hts _ h2)
      exact ⟨(a, i), fun q' z => by cases z; exact h3⟩
  obtain ⟨d, hd⟩ := Classical.axiomOfChoice h
  exact ⟨fun c => (d c).1, fun c => (d c).2, hd⟩
theorem arr_num {ty : FieldType} (ht : ty = .int ∨ ty = .boolean) (h : (Cond.arrayClass ty).before args s = true) : ∃ cA : ClassId, ArrOfT s cA ty ∧ va_RA s cA ty := by
  obtain ⟨c, k, comp, h1, h2, h3⟩ := Cond.arrayClass_spec h
  refine ⟨c, fun n z => ⟨fun k h => (by cases h), k, h2, comp, h3⟩, ?_⟩
  rcases ht with rfl | rfl <;> exact h1
theorem arr_obj {C : String} (h : (Cond.arrayOver (.object C)).before args s = true) : ∃ cA : ClassId, ArrOfT s cA (.object C) ∧ va_RA s cA (.object C) := by
  obtain ⟨comp, c, k, h1, h2, h3, h4, h5⟩ := Cond.arrayOver_spec h
  exact ⟨c, fun n z => ⟨fun k h => (by cases h), k, h3, comp, h4⟩, k, comp, h3, h4, h1, h5⟩
set_option maxHeartbeats 1000000 in
/-- the constants of text, and the two statics, at the start -/
theorem txt_all (hts : ∀ w ∈ lw_tbl, w.before args s = true) (hs : ∀ w ∈ nFl, w.before args s = true) : ∃ (a1 : Nat) (adK adV : Nat → Nat), va_Z "java/lang/String" "COMPACT_STRINGS" "Z" (.int 1) (fun q => s.heap.size ≤ q) s s.heap ∧ (va_Z "jdk/internal/util/Preconditions" "SIOOBE_FORMATTER" "Ljava/util/function/BiFunction;" .null (fun q => s.heap.size ≤ q) s s.heap ∨ va_Z "jdk/internal/util/Preconditions" "SIOOBE_FORMATTER" "Ljava/util/function/BiFunction;" (.ref a1) (fun q => s.heap.size ≤ q) s s.heap) ∧ vk_S 13 sLen sByt adK adV (fun q => s.heap.size ≤ q) s s.heap ∧ ∀ i, i < 13 → vk_R (tmO i).1 (tmO i).2.1 (tmO i).2.2.1 (adK i) s := by
  have hA : ∀ a : Nat, a < s.heap.size → ¬ (fun q : Nat => s.heap.size ≤ q) a := fun a h => Nat.not_le.mpr h
  have hn : ∀ {w : Cond} (i : Nat), nFl[i]? = some w → w.before args s = true := fun i h => hs _ (List.mem_of_getElem? h)
  obtain ⟨adK, adV, hS, hev⟩ := vk_Sof (args := args) (s := s) (N := 13) (tm := tmS) (len := sLen) (byt := sByt) (A := fun q => s.heap.size ≤ q) sLen_lt (fun i hi => hn _ (nf_ex i hi)) (fun i hi => hn _ (nf_co i hi)) (fun i hi => hn _ (nf_ar i hi)) (fun i hi => hn _ (nf_le i hi)) (fun i hi j hj => hn _ (nf_el i hi j hj)) (fun i j hi hj hij => by
    rcases Nat.lt_or_ge i j with hlt | hge
    · have z := hn _ (nf_ne j hj i hlt)
      by_cases h12 : j = 12
      · rw [if_pos h12] at z; exact Or.inr z
      · rw [if_neg h12] at z; exact Or.inl z
    · have z := hn _ (nf_ne i hi j (by omega))
      by_cases h12 : i = 12
      · rw [if_pos h12] at z; exact Or.inl z
      · rw [if_neg h12] at z; exact Or.inr z) hA
  have h1 := va_Zof (A := fun q => s.heap.size ≤ q) (hts _ tw_z1) (hts _ tw_i1) (va_eqi (hn _ nf_z1)) hA
  have h2 := va_Zqof (A := fun q => s.heap.size ≤ q) (hts _ tw_z2) (hts _ tw_i2) (hn _ nf_z2) hA
  have h3 : ∀ i, i < 13 → vk_R (tmO i).1 (tmO i).2.1 (tmO i).2.2.1 (adK i) s := fun i hi => vk_R.of (hts _ (tb_of _ (tw_sr i hi))) (hev i hi)
  rcases h2 with h2 | ⟨t, h2⟩
  · exact ⟨0, adK, adV, h1, Or.inl h2, hS, h3⟩
  · exact ⟨t, adK, adV, h1, Or.inr h2, hS, h3⟩
/-- special addresses: the script, the formatter, the texts, their bytes -/
theorem gs_all (b a1 : Nat) (adK adV : Nat → Nat) : ∃ gs : Nat → Nat, gs 0 = b ∧ gs 1 = a1 ∧ (∀ i, i < 13 → gs (2 + i) = adK i) ∧ ∀ i, gs (20 + i) = adV i := by
  refine ⟨fun j => if j = 0 then b else if j = 1 then a1 else if j < 20 then adK (j - 2) else adV (j - 20), rfl, rfl, fun i hi => ?_, fun i => ?_⟩
  · show (if 2 + i = 0 then b else if 2 + i = 1 then a1 else if 2 + i < 20 then adK (2 + i - 2) else adV (2 + i - 20)) = adK i
    rw [if_neg (by omega), if_neg (by omega), if_pos (by omega), Nat.add_sub_cancel_left]
  · show (if 20 + i = 0 then b else if 20 + i = 1 then a1 else if 20 + i < 20 then adK (20 + i - 2) else adV (20 + i - 20)) = adV i
    rw [if_neg (by omega), if_neg (by omega), if_neg (by omega), Nat.add_sub_cancel_left]
theorem sTab_o {i k : Nat} {o t : String} {b : List Int32} (h : sTab[i]? = some (o, k, t, b)) : i < 13 ∧ tmO i = (o, k, t, b) := by
  refine ⟨(List.getElem?_eq_some_iff.mp h).1, ?_⟩
  unfold tmO
  rw [List.getD, h]
  rfl
theorem kn_all (hts : ∀ w ∈ lw_tbl, w.before args s = true) (hs : ∀ w ∈ nFl, w.before args s = true) (b : Nat) : ∃ (dC : Nat → ClassId) (dI : Nat → Nat → Nat) (aC : Nat → ClassId) (gs : Nat → Nat), gs 0 = b ∧ Kn (s.heap.size, dC, dI, aC, s.heap, gs) s := by
  obtain ⟨dC, dI, hC⟩ := cls_all (args := args) (s := s) (fun w hw => hts w (List.mem_filter.mp hw).1)
  obtain ⟨ci, hi⟩ := arr_num (Or.inl rfl) (hts _ tw_ai)
  obtain ⟨cz, hz⟩ := arr_num (Or.inr rfl) (hts _ tw_az)
  obtain ⟨c1, h1⟩ := arr_obj (hts _ tw_a1)
  obtain ⟨c6, h6⟩ := arr_obj (hts _ tw_a6)
  obtain ⟨a1, adK, adV, t1, t2, t3, t4⟩ := txt_all hts hs
  obtain ⟨gs, g0, g1, g2, g20⟩ := gs_all b a1 adK adV
  refine ⟨dC, dI, fun k => if k = 100 then ci else if k = 101 then cz else if k = 102 then c1 else c6, gs, g0, ⟨hC, fun k q hq => ?_⟩, nst_tab hts, va_AO.of (hts _ tw_a1), va_AO.of (hts _ tw_a6), fun q hq => va_Nc.of (hs _ (nf_nc q hq)), t1, ?_, ⟨fun i hi => ?_, fun i j hi hj e => ?_⟩, fun i o k t b h => ?_⟩
  · match k, hq with
    | 0, hq => cases hq; exact hi
    | 1, hq => cases hq; exact hz
    | 2, hq => cases hq; exact h1
    | 3, hq => cases hq; exact h6
    | k + 4, hq => simp [tyA] at hq
  · show _ ∨ va_Z _ _ _ (.ref (gs 1)) _ _ _
    rw [g1]
    exact t2
  · show va_O _ (gs (2 + i)) _ _ _ ∧ va_OF _ _ _ _ (gs (2 + i)) _ _ _ ∧ va_OF _ _ _ (.ref (gs (20 + i))) (gs (2 + i)) _ _ _ ∧ va_T _ (gs (20 + i)) _ _ _ _ _
    rw [g2 i hi, g20 i]
    exact t3.1 i hi
  · have e2 : gs (2 + i) = gs (2 + j) := e
    rw [g2 i hi, g2 j hj] at e2
    exact t3.2 i j hi hj e2
  · obtain ⟨hi, ho⟩ := sTab_o h
    show vk_R o k t (gs (2 + i)) s
    rw [g2 i hi]
    have z := t4 i hi
    rw [ho] at z
    exact z
end START
theorem d_1141 : Dq cL_law 1141 (.iconst 1) 1 1142 := ⟨by decide +kernel, rfl⟩
theorem d_1142 : decode code 1142 = .ok (.ireturn, 1) := by decide +kernel
set_option maxHeartbeats 4000000 in
theorem whole_start {p : Program} {e : Env} {s : State} {m : MethodId} {below : List Frame} {meth : Method} {c : Code} (l : Launch) (hflags : l.flags = flags0) {b L : Nat} {xs : Nat → Int32} (hL : L ≤ 384) (C0 : lw_At p s m meth c b L xs) : W p l e room_1 s m #[Value.ref b] below meth c s.heap [] 0 0 (lw_Z below #[Value.ref b] s) (entryFrame m ([Value.ref b] : List Value).toArray 4) := by
  obtain ⟨hx, hb, hr, hml, hown, hts, hX, hbl, hlocks, hgv⟩ := id C0
  obtain ⟨dC, dI, aC, gs, g0, hKn⟩ := kn_all hts (flat_of_before _ hgv) b
  have hok : OKx (p, l, e, room_1, s, m, #[Value.ref b], below, meth, c) (s.heap.size, dC, dI, aC, s.heap, gs) RL cL_law 4 ret := ⟨hx, hb, hr, hml, hown, fun w hw => hts w (List.mem_filter.mp hw).1, hKn, hlocks, Nat.le_refl _⟩
  have hl : LwX (p, l, e, room_1, s, m, #[Value.ref b], below, meth, c) (s.heap.size, dC, dI, aC, s.heap, gs) L xs := by
    refine ⟨hok, rfl, ?_, ?_, rfl, hL⟩
    · show va_X (gs 0) L xs s s.heap
      rw [g0]
      exact hX
    · show gs 0 < s.heap.size
      rw [g0]
      exact hbl
  have hend : ∀ (i k n : Nat) (h : AHp), k ≤ 600000 → n ≤ 7302250 → V (p, l, e, room_1, s, m, #[Value.ref b], below, meth, c) (s.heap.size, dC, dI, aC, s.heap, gs) 4 k n (lw_Z below #[Value.ref b] s) 1141 [some (.ref 1000000), some (.ref 0), some (.ref 38), some (.int (nI i))] [] h := by
    intro i k n h hk hn
    refine v_iconst hok (v := 1) (by decide) d_1141 ?_
    intro H locs la hW hS hLH
    refine va_forget (fun q hq => hS.2.2 q hq) ?_
    refine W.widen hk hn ?_
    exact lw_ret hx hb hr hlocks d_1142
  have hv := law_start (Q := lw_Z below #[Value.ref b] s) hl hend
  have e0 : cv (s.heap.size, dC, dI, aC, s.heap, gs) (.ref 1000000) = .ref b := (cv_ge 0).trans (congrArg Value.ref g0)
  have hle : LH (s.heap.size, dC, dI, aC, s.heap, gs) ((lg_sl ([.ref b]) ++ List.replicate (4 - (lg_sl ([.ref b])).length) Slot.unset).toArray) 4 [some (.ref 1000000), none, none, none] := by
    show lv_has _ 4 [(0, cv (s.heap.size, dC, dI, aC, s.heap, gs) (.ref 1000000))]
    rw [e0]
    exact lv_entry ([.ref b]) (n := 4) (Nat.le_of_ble_eq_true rfl)
  rw [lg_entry_eq]
  exact hv s.heap [] _ ⟨rfl, (by show 0 < 1000000; omega), fun q hq => rfl, fun a ha => absurd ha (Nat.not_lt_zero _)⟩ va_S.rf hle
