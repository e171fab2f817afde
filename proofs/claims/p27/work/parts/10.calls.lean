/-! Calls -/
theorem zwarm {w : Cond} (hw : zgood w = true) {args : Array Value} {s : State} (h : w.before args s = true) : ∀ (a' : Array Value) (U : State), s.WarmedH U.vm → w.before a' U = true := by
  intro a' U hW
  cases w with
  | fieldLinkNest a i b n d hh => exact va_Nw.use rfl (va_Nw.warmF hW (va_Nw.of rfl h))
  | methodLinkNest a i y hh => exact va_Nw.use rfl (va_Nw.warmM hW (va_Nw.of rfl h))
  | arrayOver t =>
    cases t with
    | object C => exact va_AO.use ((va_AO.of h).moved hW.alike)
    | _ => exact word_at hW (good_of_word hw) h
  | _ => exact word_at hW (good_of_word hw) h
def zws (j : Nat) : List Cond := .code (zy j) (zb j) (zmx j) (zrt j) :: zALL
abbrev zrm0 (j mc ms : Nat) : Room := { frames := zfr j, cells := mc, slots := ms, locals := zlo j }
def zPc (G : zG) (as : List zV) (h : zH) : Array Value → State → Prop := va_Pc (as.map (zrV G)) (fun U => zX G U ∧ va_P (gD G) vwCl (zww G h) U.heap ∧ U.heap.size = gsz G + (h.length - 3))
def zQc (G : zG) (r : Option zV) (h1 : zH) : Array Value → State → Outcome → State → Prop := fun _ st o t => (o = .returned (r.map (zrV G)) ∧ va_P (gD G) vwCl (zww G h1) t.heap ∧ t.heap.size = gsz G + (h1.length - 3)) ∧ va_F (gA G) st t
/-- a run of the small machine is a contract -/
theorem zMet {G : zG} {l : Launch} {j : Nat} {as : List zV} {h h1 : zH} {r : Option zV} (hj : zmP j) (hro : zro G h) (hm : h.length ≤ h1.length ∧ zsz h ≤ zsz h1) (hlen : (zexp as).length ≤ zmx j) (hrun : zGoal G l j 0 (zloc j as) [] h (r, h1)) : Met l (zy j) (zws j) (zrm0 j (h1.length - h.length) (zsz h1 - zsz h)) (zPc G as h) (zQc G r h1) (h1.length - h.length) (zsz h1 - zsz h) (gA G) := by
  obtain ⟨m1, m2, m3, m4, ⟨m5, m6, m7⟩, m8, m9, m10⟩ := hj
  refine Met.ofW (cc := zb j) (maxL := zmx j) (ret := zrt j) m5 rfl ?_
  intro p e s m args below meth c s₁ B hml hv
  obtain ⟨rfl, hX, hP, hsz⟩ := hv
  have hts : ∀ w ∈ zws j, w.before (as.map (zrV G)).toArray s = true := atoms_spec (ws := zws j) B.pre
  have F : zFx G j p (zrm0 j (h1.length - h.length) (zsz h1 - zsz h)) s m meth c (as.map (zrV G)).toArray :=
    ⟨B.exec, B.bytes, hml, by rw [m9]; exact findClass_of_methodNamed B.named, fun w hw => hts w (List.mem_cons_of_mem _ hw), fun hi => by
      rw [(name_of_methodNamed B.named B.method).1]
      unfold zis at hi
      exact beq_iff_eq.mp hi, Nat.le_refl _, Nat.le_refl _, hX⟩
  have I : zIn G s h s.heap [] := ⟨hP, hsz, hro, va_S.rf⟩
  rw [lg_entry_eq]
  have hrt := B.returns
  have hlocks := B.notSynchronized
  refine hrun p e _ s m _ below meth c s.heap [] 0 0 (h1.length - h.length) (zsz h1 - zsz h) _ _ F I rfl (by have := hm.1; simp only; omega) (by have := hm.2; simp only; omega) (Nat.le_refl _) (Nat.le_refl _) (zlv_entry j as hlen) ?_
  intro pc1 ls1 H1 locs1 I1 hr
  have fin : ∀ v : Option Value, v = r.map (zrV G) → ∀ t : State, t.heap = H1 → s.WarmedH t.vm → zQc G r h1 (as.map (zrV G)).toArray s (.returned v) t := fun v hv t ht _ =>
    ⟨⟨by rw [hv], by rw [ht]; exact I1.1, by rw [ht]; exact I1.2.1⟩, I1.2.2.2.F ht⟩
  cases r with
  | none =>
    obtain ⟨hd, hq⟩ := hr
    exact W.vret F.1 F.2.1 (by rw [hrt, hq]) (fin none rfl) I1.2.2.2.2.2 hd
  | some v =>
    rcases v with z | n | q | u
    · obtain ⟨hd, hq⟩ := hr
      rcases hq with hq | ⟨hq, hz⟩
      · exact W.iret F.1 F.2.1 (by rw [hrt, hq]) (fin _ rfl) I1.2.2.2.2.2 hd
      · refine W.zret F.1 F.2.1 (by rw [hrt, hq]) ?_ (fin _ rfl) I1.2.2.2.2.2 hd
        rcases hz with rfl | rfl <;> rfl
    · obtain ⟨hd, hq⟩ := hr
      exact W.lret F.1 F.2.1 (by rw [hrt, hq]) (fin _ rfl) I1.2.2.2.2.2 hd
    · exact hr.elim
    · exact hr.elim
section
variable {p : Program} {l : Launch} {e : Env} {R : Room} {s : State} {m : MethodId} {args : Array Value} {below : List Frame} {meth : Method} {c : Code} {H : Heap} {locs : List Loc} {cells slots : Nat} {Q : State → Prop} {G : zG} {pc : Nat} {lsr : Array Slot} {rest st0 : List Value} {a : Array Value} {mc ms : Nat} {r : Option zV} {h h1 : zH}
theorem zcall_go (hr : va_Run p l e R s m args below meth c H locs cells slots mc ms (F0 m pc lsr st0) rest (zQc G r h1 a) (gA G)) (I : zIn G s h H locs) (hro : zro G h1) (hle : gsz G ≤ s.heap.size)
    (kk : ∀ (H1 : Heap) (locs1 : List Loc), zIn G s h1 H1 locs1 → W p l e R s m args below meth c H1 locs1 (cells + mc) (slots + ms) Q (F0 m (pc + 3) lsr ((r.map (zrV G)).toList ++ rest))) : W p l e R s m args below meth c H locs cells slots Q (F0 m pc lsr st0) := by
  intro T hT X
  obtain ⟨v, st₀, t, T', L, h0, X', hL, e1, e2, ⟨⟨hv, hP, hsz⟩, hz, hk⟩, st⟩ := hr T hT X
  have hv : v = r.map (zrV G) := by
    injection hv
  subst hv
  rw [h0] at hz hk
  have hS := I.2.2.2
  obtain ⟨t2, a1, b1⟩ := kk T'.heap (locs ++ L) ⟨by rw [e1]; exact hP, by rw [e1]; exact hsz, hro, Nat.le_trans hS.1 (by rw [e1]; exact hz), fun q g1 g2 => by
      rw [e1, hk q (Nat.lt_of_lt_of_le g1 hS.1) g2]
      exact hS.2.1 q g1 g2, fun q hq => by
      rcases List.mem_append.mp hq with g | g
      · exact hS.2.2 q g
      · exact hL q g⟩ T' rfl X'
  exact ⟨t2, st t2 a1, b1⟩
theorem zblind {as : List zV} : FrameBlind (zPc G as h) := by
  intro a U g mk q
  obtain ⟨q1, q2, q3, q4⟩ := q
  exact ⟨q1, q2.next (U := U.calling g mk a) (Vm.Alike.refl U.vm) (fun _ _ => rfl) q2.2.2.2.2.2.2.2.1, q3, q4⟩
theorem zpre {as : List zV} (hX : zX G s) (I : zIn G s h H locs) (U : State) (hU : U.heap = H) (hW : s.WarmedH U.vm) : zPc G as h (as.map (zrV G)).toArray U := by
  have hle := hX.2.2.2.2.2.2.2.1
  refine ⟨rfl, hX.next hW.alike (fun q hq => ?_) ?_, by rw [hU]; exact I.1, by rw [hU]; exact I.2.1⟩
  · rw [hU]
    exact I.2.2.2.2.1 q (Nat.lt_of_lt_of_le hq hle) (Nat.not_le.mpr hq)
  · rw [hU, I.2.1]
    exact Nat.le_add_right _ _
end
section
variable {G : zG} {l : Launch} {k pc : Nat} {ls st : List zV} {h : zH} {x : Option zV × zH} {go : Nat → List zV → List zV → zH → Option (Option zV × zH)}
theorem zst_split {G : zG} {st : List zV} {na : Nat} : st.map (zrV G) = (((st.take na).reverse).map (zrV G)).reverse ++ (st.drop na).map (zrV G) := by
  rw [List.map_reverse, List.reverse_reverse, ← List.map_append, List.take_append_drop]
theorem zcat_ct {G : zG} : ∀ r : List zV, ((r.map (zrV G)).map fun v => v.category).sum ≤ zct r := by
  intro r
  induction r with
  | nil => exact Nat.le_refl 0
  | cons v t ih =>
    have h1 : (zrV G v).category ≤ if zc1 v = true then 1 else 2 := by
      by_cases hc : zc1 v = true
      · rw [if_pos hc, zc1_cat hc]; exact Nat.le_refl _
      · rw [if_neg hc]; rcases lv_cat (zrV G v) with h | h <;> omega
    have h2 : zct (v :: t) = (if zc1 v = true then 1 else 2) + zct t := rfl
    simp only [List.map_cons, List.sum_cons]
    omega
theorem zcat_drop {G : zG} {st : List zV} {na : Nat} (h : zct (st.drop na) ≤ 8) : (((st.drop na).map (zrV G)).map fun v => v.category).sum ≤ 8 := Nat.le_trans (zcat_ct _) h
/-- what a call's row wants of the tables -/
theorem zcw {k j idx mc ms : Nat} {R : Room} {s : State} {m : MethodId} {p : Program} {meth : Method} {c : Code} {args : Array Value} (F : zFx G k p R s m meth c args) (hj : zmP j) (hroom : zfr j + 1 ≤ zfr k ∧ 8 + (zmx j + 11) + zlo j ≤ zlo k) :
    ((zrm0 j mc ms).cells = mc ∧ (zrm0 j mc ms).slots = ms ∧ (zrm0 j mc ms).frames + 1 ≤ R.frames ∧ 8 + (zmx j + 11) + (zrm0 j mc ms).locals ≤ R.locals ∧ (∀ w ∈ zws j, ∀ (a' : Array Value) (U : State), s.WarmedH U.vm → w.before a' U = true) ∧ Cond.code (zy j) (zb j) (zmx j) (zrt j) ∈ zws j) ∧ (Cond.code (zy j) (zb j) (zmx j) (zrt j)).before args s = true ∧ (Cond.initialized (zy j).cls).before args s = true ∧ ((zy j).cls ≠ "java/lang/invoke/MethodHandle" ∧ (zy j).cls ≠ "java/lang/invoke/VarHandle") ∧ (∀ sig, parseMethodDescriptor (zy j).desc = some sig → (if zst j = true then zna j else zna j - 1) = sig.parameters.length) := by
  obtain ⟨m1, m2, m3, m4, ⟨m5, m6, m7⟩, m8, m9, m10⟩ := hj
  have f1 := F.2.2.2.2.2.2.1
  have f2 := F.2.2.2.2.2.2.2.1
  refine ⟨⟨rfl, rfl, by show zfr j + 1 ≤ _; omega, by show 8 + (zmx j + 11) + zlo j ≤ _; omega, fun w hw => ?_, List.mem_cons_self⟩, zFx_w F m1, zFx_w F m2, ⟨m6, m7⟩, fun sig hs => ?_⟩
  · rcases List.mem_cons.mp hw with rfl | hw
    · exact zwarm m1.2 (zFx_w F m1)
    · exact zwarm (zW_iff.mp hw).2 (F.2.2.2.2.1 w hw)
  · rw [hs] at m8
    exact (Option.some.inj m8).symm
theorem zs_call {j idx : Nat} {as : List zV} {h1 : zH} {r : Option zV} (hq : zlk zml (zow k) idx = some j) (hj : zmP j) (hroom : zfr j + 1 ≤ zfr k ∧ 8 + (zmx j + 11) + zlo j ≤ zlo k)
    (hla : zna j ≤ st.length ∧ zct (st.drop (zna j)) ≤ 8) (has : as = (st.take (zna j)).reverse)
    (hi : (zst j = true ∧ decode (zb k) pc = .ok (.invokestatic idx, 3)) ∨ (zst j = false ∧ zis j = false ∧ decode (zb k) pc = .ok (.invokevirtual idx, 3) ∧ ∃ (a : Nat) (fs : List zV) (t : List zV), as = vR a :: t ∧ h[a]? = some (oO (zow j) fs) ∧ zow j < 10) ∨ (zst j = false ∧ zis j = true ∧ zrt j = none ∧ decode (zb k) pc = .ok (.invokespecial idx, 3) ∧ ∃ (a : Nat) (t : List zV), as = vR a :: t))
    (hlen : (zexp as).length ≤ zmx j) (hm : h.length ≤ h1.length ∧ zsz h ≤ zsz h1 ∧ (zro G h → zro G h1)) (hrun : zGoal G l j 0 (zloc j as) [] h (r, h1)) (hmx : h1.length ≤ x.2.length ∧ zsz h1 ≤ zsz x.2)
    (hgo : zGoal G l k (pc + 3) ls (r.toList ++ st.drop (zna j)) h1 x) : zGoal G l k pc ls st h x := by
  intro p e R s m args below meth c H locs cells slots tc ts lsr Q F I hc e1 e2 b1 b2 hl K
  have hro := I.2.2.1
  have hX := F.2.2.2.2.2.2.2.2
  have hM := zMet (G := G) (l := l) (r := r) hj hro ⟨hm.1, hm.2.1⟩ hlen hrun
  have hlk := zml_ok _ (zlk_mem hq)
  have cw := zcw (idx := idx) (mc := h1.length - h.length) (ms := zsz h1 - zsz h) F hj hroom
  have hmm := hm.1
  have hms := hm.2.1
  have hf : cells + (h1.length - h.length) ≤ R.cells ∧ slots + (zsz h1 - zsz h) ≤ R.slots := ⟨by omega, by omega⟩
  have hcat := zcat_drop (G := G) hla.2
  have hsp := zst_split (G := G) (st := st) (na := zna j)
  rw [← has] at hsp
  have hal : as.length = zna j := by rw [has, List.length_reverse, List.length_take]; omega
  have kk : ∀ (H1 : Heap) (locs1 : List Loc), zIn G s h1 H1 locs1 → W p l e R s m args below meth c H1 locs1 (cells + (h1.length - h.length)) (slots + (zsz h1 - zsz h)) Q (F0 m (pc + 3) lsr ((r.map (zrV G)).toList ++ (st.drop (zna j)).map (zrV G))) := by
    intro H1 locs1 I1
    have := hgo p e R s m args below meth c H1 locs1 (cells + (h1.length - h.length)) (slots + (zsz h1 - zsz h)) tc ts lsr Q F I1 (by have a1 := I.2.1; have a2 := I1.2.1; have a3 := zro_3 hro; omega) (by omega) (by omega) b1 b2 hl K
    have e0 : (r.toList ++ st.drop (zna j)).map (zrV G) = (r.map (zrV G)).toList ++ (st.drop (zna j)).map (zrV G) := by
      rw [List.map_append]
      cases r <;> rfl
    rw [e0] at this
    exact this
  have S : CallFix p m c (zb k) (zmx k) s args zALL (zcn (zow k)) := ⟨F.1, F.2.1, F.2.2.1, F.2.2.2.1, F.2.2.2.2.1⟩
  obtain ⟨cw1, cw2, cw3, cw4, cw5⟩ := cw
  have hle := hX.2.2.2.2.2.2.2.1
  obtain ⟨m1, m2, m3, m4, m5, m8, m9, m10⟩ := hj
  rw [hsp]
  rcases hi with ⟨i1, hd⟩ | ⟨i1, i2, hd, a, fs, t, hat, hao, hcl⟩ | ⟨i1, i2, i3, hd, a, t, hat⟩
  · rw [if_pos i1] at m3
    have hst : (Cond.static (zy j)).before args s = true := zFx_w F m3
    have hn : (as.map (zrV G)).length = (if zst j = true then zna j else zna j - 1) := by rw [List.length_map, hal, if_pos i1]
    rcases hlk with hlk | ⟨host, hlk⟩
    · exact zcall_go (va_runS (As := as.map (zrV G)) S hM ⟨⟨cw1.1, cw1.2.1, cw1.2.2.1, cw1.2.2.2.1, cw1.2.2.2.2.1, cw1.2.2.2.2.2, cw2, cw3, cw4, cw5, zFx_w F hlk⟩, hst⟩ ⟨zblind, fun U hU hW => zpre hX I U hU hW⟩ rfl hn hl.1 rfl (lv_room hcat) hd hf) I (hm.2.2 hro) hle kk
    · exact zcall_go (va_runSN (As := as.map (zrV G)) S hM ⟨⟨cw1, cw2, cw3, cw4, cw5, zFx_w F hlk⟩, hst, trivial⟩ ⟨zblind, fun U hU hW => zpre hX I U hU hW⟩ rfl hn hl.1 rfl (lv_room hcat) hd hf) I (hm.2.2 hro) hle kk
  · have i1' : ¬ zst j = true := by rw [i1]; decide
    rw [if_neg i1'] at m3
    rw [if_pos ⟨i1, i2⟩] at m4
    have h3 := zro_O hro hao
    have hn : (t.map (zrV G)).length = (if zst j = true then zna j else zna j - 1) := by
      rw [if_neg i1', ← hal, hat]; simp
    have hrec : ∃ cellB : Cell, H[zad G a]? = some cellB ∧ cellB.vm.isStatics = false ∧ s.vm.findClass (zy j).cls = some cellB.cls := by
      obtain ⟨C, T, N, ty, hcl', hcn, -⟩ := zcl_ok (zow j) hcl
      have := va_recv hX.1 I.1 hcl' (zww_at h3 hao)
      rw [zad_ge h3, ← m9, hcn]
      exact this
    have hpre : PreV s H (zy j).cls (zad G a) (zPc G as h) (t.map (zrV G)) := ⟨zblind, hrec, fun U hU hW => by
      have := zpre (as := as) hX I U hU hW
      have e0 : as.map (zrV G) = Value.ref (zad G a) :: t.map (zrV G) := by rw [hat]; rfl
      rw [e0] at this
      exact this⟩
    have hstk : (as.map (zrV G)).reverse ++ (st.drop (zna j)).map (zrV G) = (t.map (zrV G)).reverse ++ Value.ref (zad G a) :: (st.drop (zna j)).map (zrV G) := by
      rw [hat, List.map_cons, List.reverse_cons, List.append_assoc]
      rfl
    rcases hlk with hlk | ⟨host, hlk⟩
    · exact zcall_go (va_runV (C := (zy j).cls) (b := zad G a) (As := t.map (zrV G)) S hM ⟨⟨cw1.1, cw1.2.1, cw1.2.2.1, cw1.2.2.2.1, cw1.2.2.2.2.1, cw1.2.2.2.2.2, cw2, cw3, cw4, cw5, zFx_w F hlk⟩, zFx_w F m3, zFx_w F m4⟩ hpre rfl hn hl.1 hstk (lv_room hcat) hd hf) I (hm.2.2 hro) hle kk
    · exact zcall_go (va_runVN (C := (zy j).cls) (b := zad G a) (As := t.map (zrV G)) S hM ⟨⟨cw1, cw2, cw3, cw4, cw5, zFx_w F hlk⟩, zFx_w F m3, zFx_w F m4⟩ hpre rfl hn hl.1 hstk (lv_room hcat) hd hf) I (hm.2.2 hro) hle kk
  · have i1' : ¬ zst j = true := by rw [i1]; decide
    rw [if_neg i1'] at m3
    have hn : (t.map (zrV G)).length = (if zst j = true then zna j else zna j - 1) := by
      rw [if_neg i1', ← hal, hat]; simp
    have hname : (zy j).name = "<init>" := by
      unfold zis at i2
      exact beq_iff_eq.mp i2
    have hpre : PreS s H (zPc G as h) (Value.ref (zad G a) :: t.map (zrV G)) := ⟨zblind, fun U hU hW => by
      have := zpre (as := as) hX I U hU hW
      have e0 : as.map (zrV G) = Value.ref (zad G a) :: t.map (zrV G) := by rw [hat]; rfl
      rw [e0] at this
      exact this⟩
    have hstk : (as.map (zrV G)).reverse ++ (st.drop (zna j)).map (zrV G) = (t.map (zrV G)).reverse ++ Value.ref (zad G a) :: (st.drop (zna j)).map (zrV G) := by
      rw [hat, List.map_cons, List.reverse_cons, List.append_assoc]
      rfl
    rw [i3] at cw1 cw2
    rcases hlk with hlk | ⟨host, hlk⟩
    · exact zcall_go (va_runI (b := zad G a) (As := t.map (zrV G)) S hM ⟨⟨cw1.1, cw1.2.1, cw1.2.2.1, cw1.2.2.2.1, cw1.2.2.2.2.1, cw1.2.2.2.2.2, cw2, cw3, cw4, cw5, zFx_w F hlk⟩, hname, zFx_w F m3⟩ hpre rfl hn hl.1 hstk (lv_room hcat) hd hf) I (hm.2.2 hro) hle kk
    · exact zcall_go (va_runIN (b := zad G a) (As := t.map (zrV G)) S hM ⟨⟨cw1, cw2, cw3, cw4, cw5, zFx_w F hlk⟩, hname, zFx_w F m3⟩ hpre rfl hn hl.1 hstk (lv_room hcat) hd hf) I (hm.2.2 hro) hle kk
end
