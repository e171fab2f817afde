/-! The law's start -/
theorem zlen_spec {args : Array Value} {s : State} {tm : Term} {v : Value} (h : (Term.length tm).eval args s none [] s = some v) : ∃ a cell, tm.eval args s none [] s = some (.ref a) ∧ s.arrayAt? a = some cell ∧ v = .int cell.slots.size.toInt32 ∧ cell.slots.size < 2147483648 := by
  simp only [Term.eval, Option.bind_eq_bind] at h
  cases ht : tm.eval args s none [] s with
  | none => simp [ht] at h
  | some x =>
    cases x <;> simp [ht] at h
    case ref a =>
      obtain ⟨cell, hcell, h⟩ := Option.bind_eq_some_iff.mp h
      by_cases hn : cell.slots.size < 2147483648
      · rw [if_pos hn] at h; cases h; exact ⟨a, cell, rfl, hcell, rfl, hn⟩
      · rw [if_neg hn] at h; cases h
/-- a static row of three ints -/
theorem zstat {args : Array Value} {s : State} {n : String} {f : Nat → Int} {A : Nat → Prop} (harr : (Cond.arrayOf (.static "GarbleWords" n "[I") .int).before args s = true) (hlen : (Cond.eq (.length (.static "GarbleWords" n "[I")) (.int 3)).before args s = true)
    (h0 : (Cond.eq (.elem (.static "GarbleWords" n "[I") (.int 0)) (.int (Int32.ofInt (f 0)))).before args s = true) (h1 : (Cond.eq (.elem (.static "GarbleWords" n "[I") (.int 1)) (.int (Int32.ofInt (f 1)))).before args s = true) (h2 : (Cond.eq (.elem (.static "GarbleWords" n "[I") (.int 2)) (.int (Int32.ofInt (f 2)))).before args s = true)
    (hl : (Cond.laysStatic "GarbleWords" n "[I").before args s = true) (hini : (Cond.initialized "GarbleWords").before args s = true) (hA : ∀ a : Nat, a < s.heap.size → ¬ A a) :
    ∃ t : Nat, t < s.heap.size ∧ va_X t 3 (fun j => Int32.ofInt (f j)) s s.heap ∧ va_Z "GarbleWords" n "[I" (.ref t) A s s.heap := by
  obtain ⟨t, cell, ht, hat, hv, hlt⟩ := zlen_spec (va_eqt hlen)
  obtain ⟨hcell, hkn, -, -⟩ := State.arrayAt?_spec hat
  obtain ⟨hof, -⟩ := Cond.arrayOf_spec harr ht hcell
  have hsz : cell.slots.size = 3 := by
    have e := Value.int.inj hv
    have e2 := congrArg Int32.toInt e
    have e3 : cell.slots.size.toInt32.toInt = (cell.slots.size : Int) := nI_toInt hlt
    have e4 : (3 : Int32).toInt = 3 := rfl
    rw [e3, e4] at e2
    omega
  have key : ∀ (j : Nat) (v : Int32), j < 3 → (Cond.eq (.elem (.static "GarbleWords" n "[I") (.int (Int32.ofNat j))) (.int v)).before args s = true → cell.slots[j]? = some (.int v) := by
    intro j v hj he
    obtain ⟨a, i, cell2, g1, g2, g3, g4, g5⟩ := Term.elem_spec (va_eqt he)
    cases ht.symm.trans g1
    cases hat.symm.trans g3
    have hi : i = Int32.ofNat j := by
      have e : (Term.int (Int32.ofNat j)).eval args s none [] s = some (.int (Int32.ofNat j)) := rfl
      cases g2.symm.trans e
      rfl
    have hc : i.toNatClampNeg = j := by rw [hi]; exact Int32.toNatClampNeg_ofNat_of_lt (Nat.lt_trans hj (by decide))
    rw [hc] at g5
    exact g5
  refine ⟨t, (Array.getElem?_eq_some_iff.mp hcell).1, ⟨cell, hcell, hof, hkn, hsz, fun j hj => ?_⟩, va_Zof hl hini ht hA⟩
  rcases (show j = 0 ∨ j = 1 ∨ j = 2 by omega) with rfl | rfl | rfl
  · exact key 0 _ (by decide) h0
  · exact key 1 _ (by decide) h1
  · exact key 2 _ (by decide) h2
theorem zlays_L : (Cond.laysStatic "GarbleWords" "LOWEST" "[I") ∈ lw_tbl := lwm_2 (j := 12) rfl
theorem zlays_H : (Cond.laysStatic "GarbleWords" "HIGHEST" "[I") ∈ lw_tbl := lwm_2 (j := 17) rfl
theorem zarr {args : Array Value} {s : State} {ty : FieldType} (h : (Cond.arrayClass ty).before args s = true) : ∃ cA : ClassId, ArrOfT s cA ty ∧ s.vm.findClass ("[" ++ ty.toString) = some cA := by
  obtain ⟨c, k, comp, h1, h2, h3⟩ := Cond.arrayClass_spec h
  exact ⟨c, fun n z => ⟨fun k h => (by cases h), k, h2, comp, h3⟩, h1⟩
/-- the heap of the small machine at the law's start -/
def zh0 (L : Nat) (xs : Nat → Int32) : zH := [aI 3 zlowf, aI 3 zhif, aI L fun j => (xs j).toInt]
theorem zclass_kn {args : Array Value} {s : State} (hw : ∀ w, zW w → w.before args s = true) : ∀ ci, ci < 10 → ∃ (C : String) (T : u_T) (N : Nat) (cC : ClassId) (iS : Nat → Nat), vwCl[ci]? = some (C, T, N) ∧ u_Kn s C T N cC iS := by
  intro ci hci
  obtain ⟨C, T, N, ty, hcl, hcn, hin, hty, hnm, hkl, hkd, hw1, hw2⟩ := zcl_ok ci hci
  obtain ⟨cC, iS, hK⟩ := u_known (ws := zALL) (fun w h => hw w (zW_iff.mp h)) (fun w h => zW_iff.mpr (hin w h)) (hw _ hw1)
  exact ⟨C, T, N, cC, iS, hcl, hK⟩
theorem zlaw_code : zb 120 = code := rfl
theorem zlaw_mx : zmx 120 = 16 := rfl
theorem zlaw_fr : zfr 120 = 7 := rfl
theorem zlaw_lo : zlo 120 = 179 := rfl
theorem zlaw_cn : zcn (zow 120) = R_law := rfl
theorem zlaw_is : zis 120 = false := rfl
set_option maxHeartbeats 4000000 in
theorem zstart {p : Program} {e : Env} {s : State} {m : MethodId} {below : List Frame} {meth : Method} {c : Code} (l : Launch) {b L : Nat} {xs : Nat → Int32} (hL : L ≤ 260) (C0 : lw_At p s m meth c b L xs)
    (hmain : ∃ (n : Nat) (h' : zH), zrun n 120 0 (zloc 120 [vR 2]) [] (zh0 L xs) = some (some (vI 1), h') ∧ h'.length ≤ 600003 ∧ zsz h' ≤ 7302250) : W p l e room_1 s m #[Value.ref b] below meth c s.heap [] 0 0 (lw_Z below #[Value.ref b] s) (entryFrame m ([Value.ref b] : List Value).toArray 16) := by
  obtain ⟨hx, hb, hr, hml, hown, hts, hX, hbl, hlocks, hgv⟩ := id C0
  obtain ⟨n, h', hrun, hg1, hg2⟩ := hmain
  have hs := flat_of_before _ hgv
  have hA : ∀ a : Nat, a < s.heap.size → ¬ (fun q : Nat => s.heap.size ≤ q) a := fun a h => Nat.not_le.mpr h
  have hw : ∀ w, zW w → w.before #[Value.ref b] s = true := fun w h => hts w h.1
  have hini : (Cond.initialized "GarbleWords").before #[Value.ref b] s = true := hw _ (zm_ok 100 (by decide)).2.1
  obtain ⟨aL, lL, xL, zL⟩ := zstat (f := zlowf) (hs _ (by decide +kernel)) (hs _ (by decide +kernel)) (hs _ (by decide +kernel)) (hs _ (by decide +kernel)) (hs _ (by decide +kernel)) (hts _ zlays_L) hini hA
  obtain ⟨aH, lH, xH, zH⟩ := zstat (f := zhif) (hs _ (by decide +kernel)) (hs _ (by decide +kernel)) (hs _ (by decide +kernel)) (hs _ (by decide +kernel)) (hs _ (by decide +kernel)) (hts _ zlays_H) hini hA
  obtain ⟨cI, aI1, aI2⟩ := zarr (hw _ zwj_ai)
  obtain ⟨cZ, aZ1, aZ2⟩ := zarr (hw _ zwj_az)
  obtain ⟨cJ, aJ1, aJ2⟩ := zarr (hw _ zwj_aj)
  obtain ⟨comp, cQ, kQ, q1, -, q3, q4, q5⟩ := Cond.arrayOver_spec (hw _ zwj_ao)
  obtain ⟨dC, hdC⟩ : ∃ (dC : Nat → ClassId × (Nat → Nat)), ∀ (k : Nat) (q : vw_C), vwCl[k]? = some q → u_Kn s q.1 q.2.1 q.2.2 (dC k).1 (dC k).2 := by
    have key : ∀ k : Nat, ∃ d : ClassId × (Nat → Nat), ∀ q : vw_C, vwCl[k]? = some q → u_Kn s q.1 q.2.1 q.2.2 d.1 d.2 := by
      intro k
      by_cases hk : k < 10
      · obtain ⟨C, T, N, cC, iS, h1, h2⟩ := zclass_kn hw k hk
        refine ⟨(cC, iS), fun q hq => ?_⟩
        cases h1.symm.trans hq
        exact h2
      · refine ⟨(0, fun _ => 0), fun q hq => ?_⟩
        have : k < 10 := (List.getElem?_eq_some_iff.mp hq).1
        exact absurd this hk
    exact ⟨fun k => (key k).choose, fun k q hq => (key k).choose_spec q hq⟩
  let G : zG := ((fun k => (dC k).1, fun k => (dC k).2), (s.heap.size, aL, aH, b, L), (cI, cZ, cJ, cQ), xs)
  have hK : va_K (gD G) vwCl (gtys G) s := by
    refine ⟨hdC, fun k q hq => ?_⟩
    match k, hq with
    | 0, hq => cases hq; exact ⟨aI1, aI2⟩
    | 1, hq => cases hq; exact ⟨aZ1, aZ2⟩
    | 2, hq => cases hq; exact ⟨aJ1, aJ2⟩
    | 3, hq => cases hq; exact ⟨fun n z => ⟨fun k h => (by cases h), kQ, q3, comp, q4⟩, kQ, comp, q3, q4, q1, q5⟩
    | k + 4, hq => simp [gtys] at hq
  have hZX : zX G s := ⟨hK, xL, xH, hX, zL, zH, ⟨lL, lH, hbl⟩, Nat.le_refl _, Nat.le_trans hL (by decide)⟩
  have F : zFx G 120 p room_1 s m meth c #[Value.ref b] := ⟨hx, by rw [zlaw_code]; exact hb, by rw [zlaw_mx]; exact hml, by rw [zlaw_cn]; exact hown, fun w h => hw w (zW_iff.mp h), fun h => (by rw [zlaw_is] at h; cases h), by rw [zlaw_fr]; exact Nat.le_of_ble_eq_true rfl, by rw [zlaw_lo]; exact Nat.le_of_ble_eq_true rfl, hZX⟩
  have hro : zro G (zh0 L xs) := ⟨rfl, rfl, rfl⟩
  have I : zIn G s (zh0 L xs) s.heap [] := ⟨fun k q h => by simp [zww, zh0] at h, rfl, hro, va_S.rf⟩
  have hgr : zgrow G (zh0 L xs) h' := zrun_grow _ _ _ _ _ _ _ hrun
  have hgl : 3 ≤ h'.length := hgr.1
  have hgs : zsz (zh0 L xs) ≤ zsz h' := hgr.2.1
  have hsim := zsim (G := G) (l := l) n 120 0 _ _ _ _ (by decide) hrun
  have hlv : lv_has ((lg_sl [Value.ref b] ++ List.replicate (16 - (lg_sl [Value.ref b]).length) Slot.unset).toArray) (zmx 120) (zlv G (zloc 120 [vR 2])) := by
    have h0 := zlv_entry (G := G) 120 [vR 2] (by rw [zlaw_mx]; decide)
    have e1 : [vR 2].map (zrV G) = [Value.ref b] := rfl
    rw [e1, zlaw_mx] at h0
    rw [zlaw_mx]
    exact h0
  rw [lg_entry_eq]
  refine hsim p e room_1 s m #[Value.ref b] below meth c s.heap [] 0 0 (h'.length - 3) (zsz h' - zsz (zh0 L xs)) _ _ F I rfl ?_ ?_ ?_ ?_ hlv ?_
  · show 0 + h'.length = h'.length - 3 + 3
    omega
  · show 0 + zsz h' = zsz h' - zsz (zh0 L xs) + zsz (zh0 L xs)
    omega
  · show h'.length - 3 ≤ 600000
    omega
  · show zsz h' - zsz (zh0 L xs) ≤ 7302250
    omega
  · intro pc1 ls1 H1 locs1 I1 hret
    have hd : decode code pc1 = .ok (.ireturn, 1) := hret.1
    refine va_forget I1.2.2.2.2.2 ?_
    refine W.widen (k := 600000) (n := 7302250) (by omega) (by omega) ?_
    exact lw_ret hx hb hr hlocks hd
