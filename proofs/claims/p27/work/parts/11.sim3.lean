/-! Growth, and the whole -/
def zgrow (G : zG) (h h1 : zH) : Prop := h.length ≤ h1.length ∧ zsz h ≤ zsz h1 ∧ (zro G h → zro G h1)
theorem zgrow.rf {G : zG} {h : zH} : zgrow G h h := ⟨Nat.le_refl _, Nat.le_refl _, fun q => q⟩
theorem zgrow.tr {G : zG} {h h1 h2 : zH} (a : zgrow G h h1) (b : zgrow G h1 h2) : zgrow G h h2 := ⟨Nat.le_trans a.1 b.1, Nat.le_trans a.2.1 b.2.1, fun q => b.2.2 (a.2.2 q)⟩
theorem zgrow.app {G : zG} {h : zH} {e : zE} : zgrow G h (h ++ [e]) := ⟨by rw [List.length_append]; omega, by rw [zsz_app]; omega, zro_app⟩
theorem zgrow.set {G : zG} {h : zH} {a : Nat} {e e0 : zE} (h1 : h[a]? = some e0) (h2 : zsE e = zsE e0) (h3 : zro G h → 3 ≤ a) : zgrow G h (h.set a e) := ⟨by rw [List.length_set]; omega, by rw [zsz_set _ _ _ _ h1 h2]; omega, fun q => zro_set q (h3 q)⟩
section
variable {G : zG} {pc len : Nat} {i : Instr} {ls st : List zV} {h : zH} {x : Option zV × zH} {go : Nat → List zV → List zV → zH → Option (Option zV × zH)} {call : Nat → List zV → zH → (Option zV → zH → Option (Option zV × zH)) → Option (Option zV × zH)}
theorem zbr_inv {c : Jvm.ClassFile.Cond} {a b : Int} {t f : Option (Option zV × zH)} (h : zbr c a b t f = some x) : t = some x ∨ f = some x := by
  cases c <;> (unfold zbr at h; dsimp only at h; split at h <;> first | exact Or.inl h | exact Or.inr h)
set_option maxHeartbeats 4000000 in
theorem zstep_grow (hgo : ∀ pc ls st h, go pc ls st h = some x → zgrow G h x.2) (hcall : ∀ k as h kont, call k as h kont = some x → ∃ v h1, zgrow G h h1 ∧ kont v h1 = some x) (he : zstep none (fun v h => some (v, h)) call go pc len i ls st h = some x) : zgrow G h x.2 := by
  cases i with
  | iconst z => exact hgo _ _ _ _ he
  | ldc2_w n => exact hgo _ _ _ _ he
  | iload n => obtain ⟨_, _, e1⟩ := zkI_inv he; exact hgo _ _ _ _ e1
  | lload n => obtain ⟨_, _, e1⟩ := zkJ_inv he; exact hgo _ _ _ _ e1
  | aload n => obtain ⟨_, _, e1⟩ := zkP_inv he; exact hgo _ _ _ _ e1
  | istore n => obtain ⟨_, _, _, e1⟩ := zpI_inv he; exact hgo _ _ _ _ e1
  | lstore n => obtain ⟨_, _, _, e1⟩ := zpJ_inv he; exact hgo _ _ _ _ e1
  | astore n => obtain ⟨_, _, _, e1⟩ := zpP_inv he; exact hgo _ _ _ _ e1
  | iinc n c => obtain ⟨_, _, e1⟩ := zkI_inv he; exact hgo _ _ _ _ e1
  | iadd => obtain ⟨_, _, _, e1⟩ := zpI_inv he; obtain ⟨_, _, _, e2⟩ := zpI_inv e1; exact hgo _ _ _ _ e2
  | isub => obtain ⟨_, _, _, e1⟩ := zpI_inv he; obtain ⟨_, _, _, e2⟩ := zpI_inv e1; exact hgo _ _ _ _ e2
  | imul => obtain ⟨_, _, _, e1⟩ := zpI_inv he; obtain ⟨_, _, _, e2⟩ := zpI_inv e1; exact hgo _ _ _ _ e2
  | idiv => obtain ⟨_, _, _, e1⟩ := zpI_inv he; obtain ⟨_, _, _, e2⟩ := zpI_inv e1; exact hgo _ _ _ _ (zif_inv e2).2
  | irem => obtain ⟨_, _, _, e1⟩ := zpI_inv he; obtain ⟨_, _, _, e2⟩ := zpI_inv e1; exact hgo _ _ _ _ (zif_inv e2).2
  | iand => obtain ⟨_, _, _, e1⟩ := zpI_inv he; obtain ⟨_, _, _, e2⟩ := zpI_inv e1; exact hgo _ _ _ _ e2
  | ixor => obtain ⟨_, _, _, e1⟩ := zpI_inv he; obtain ⟨_, _, _, e2⟩ := zpI_inv e1; exact hgo _ _ _ _ e2
  | ineg => obtain ⟨_, _, _, e1⟩ := zpI_inv he; exact hgo _ _ _ _ e1
  | ishl => obtain ⟨_, _, _, e1⟩ := zpI_inv he; obtain ⟨_, _, _, e2⟩ := zpI_inv e1; exact hgo _ _ _ _ (zif_inv e2).2
  | ishr => obtain ⟨_, _, _, e1⟩ := zpI_inv he; obtain ⟨_, _, _, e2⟩ := zpI_inv e1; exact hgo _ _ _ _ (zif_inv e2).2
  | dup_x2 => obtain ⟨_, _, _, e1⟩ := zpop_inv he; obtain ⟨_, _, _, e2⟩ := zpop_inv e1; obtain ⟨_, _, _, e3⟩ := zpop_inv e2; exact hgo _ _ _ _ (zif_inv e3).2
  | pop2 => obtain ⟨_, _, _, e1⟩ := zpop_inv he; exact hgo _ _ _ _ (zif_inv e1).2
  | land => obtain ⟨_, _, _, e1⟩ := zpJ_inv he; obtain ⟨_, _, _, e2⟩ := zpJ_inv e1; exact hgo _ _ _ _ e2
  | lor => obtain ⟨_, _, _, e1⟩ := zpJ_inv he; obtain ⟨_, _, _, e2⟩ := zpJ_inv e1; exact hgo _ _ _ _ e2
  | lshl => obtain ⟨_, _, _, e1⟩ := zpI_inv he; obtain ⟨_, _, _, e2⟩ := zpJ_inv e1; exact hgo _ _ _ _ (zif_inv e2).2
  | lushr => obtain ⟨_, _, _, e1⟩ := zpI_inv he; obtain ⟨_, _, _, e2⟩ := zpJ_inv e1; exact hgo _ _ _ _ (zif_inv e2).2
  | lcmp => obtain ⟨_, _, _, e1⟩ := zpJ_inv he; obtain ⟨_, _, _, e2⟩ := zpJ_inv e1; exact hgo _ _ _ _ (zif_inv e2).2
  | i2l => obtain ⟨_, _, _, e1⟩ := zpI_inv he; exact hgo _ _ _ _ (zif_inv e1).2
  | l2i => obtain ⟨_, _, _, e1⟩ := zpJ_inv he; exact hgo _ _ _ _ e1
  | dup => obtain ⟨_, _, _, e1⟩ := zpop_inv he; exact hgo _ _ _ _ (zif_inv e1).2
  | dup2 => obtain ⟨_, _, _, e1⟩ := zpop_inv he; obtain ⟨_, _, _, e2⟩ := zpop_inv e1; exact hgo _ _ _ _ (zif_inv e2).2
  | ifCond c o =>
    obtain ⟨_, _, _, e1⟩ := zpI_inv he
    rcases zbr_inv (zif_inv e1).2 with e2 | e2 <;> exact hgo _ _ _ _ e2
  | if_icmp c o =>
    obtain ⟨_, _, _, e1⟩ := zpI_inv he
    obtain ⟨_, _, _, e2⟩ := zpI_inv e1
    rcases zbr_inv (zif_inv e2).2 with e3 | e3 <;> exact hgo _ _ _ _ e3
  | goto o => exact hgo _ _ _ _ he
  | ifnonnull o =>
    obtain ⟨q, _, _, e1⟩ := zpP_inv he
    cases q <;> exact hgo _ _ _ _ e1
  | tableswitch d lo hi os =>
    obtain ⟨_, _, _, e1⟩ := zpI_inv he
    have e2 := (zif_inv e1).2
    split at e2
    · exact hgo _ _ _ _ (zif_inv e2).2
    · split at e2
      · exact hgo _ _ _ _ (zif_inv e2).2
      · cases e2
  | invokeinterface ci sl =>
    obtain ⟨_, _, _, e1⟩ := zpR_inv he
    obtain ⟨_, _, _, e2⟩ := zhO_inv e1
    have e3 := (zif_inv e2).2
    split at e3
    · exact hgo _ _ _ _ e3
    · cases e3
  | multianewarray ci sl =>
    obtain ⟨_, _, _, e1⟩ := zpop_inv he
    obtain ⟨_, _, _, e2⟩ := zpR_inv e1
    obtain ⟨_, _, ha, e3⟩ := zhO_inv e2
    exact (zgrow.set ha (by simp [zsE]) (fun q => zro_O q ha)).tr (hgo _ _ _ _ (zif_inv e3).2)
  | getstatic k => exact hgo _ _ _ _ he
  | iaload => obtain ⟨_, _, _, e1⟩ := zpI_inv he; obtain ⟨_, _, _, e2⟩ := zpR_inv e1; obtain ⟨_, _, _, e3⟩ := zhI_inv e2; exact hgo _ _ _ _ (zif_inv e3).2
  | laload => obtain ⟨_, _, _, e1⟩ := zpI_inv he; obtain ⟨_, _, _, e2⟩ := zpR_inv e1; obtain ⟨_, _, _, e3⟩ := zhJ_inv e2; exact hgo _ _ _ _ (zif_inv e3).2
  | baload => obtain ⟨_, _, _, e1⟩ := zpI_inv he; obtain ⟨_, _, _, e2⟩ := zpR_inv e1; obtain ⟨_, _, _, e3⟩ := zhZ_inv e2; exact hgo _ _ _ _ (zif_inv e3).2
  | aaload => obtain ⟨_, _, _, e1⟩ := zpI_inv he; obtain ⟨_, _, _, e2⟩ := zpR_inv e1; obtain ⟨_, _, _, e3⟩ := zhQ_inv e2; exact hgo _ _ _ _ (zif_inv e3).2
  | iastore =>
    obtain ⟨_, _, _, e1⟩ := zpI_inv he
    obtain ⟨_, _, _, e2⟩ := zpI_inv e1
    obtain ⟨_, _, _, e3⟩ := zpR_inv e2
    obtain ⟨_, _, ha, e4⟩ := zhI_inv e3
    refine zgrow.tr ?_ (hgo _ _ _ _ (zif_inv e4).2)
    exact zgrow.set ha rfl (fun _ => (zif_inv e4).1.2)
  | bastore =>
    obtain ⟨_, _, _, e1⟩ := zpI_inv he
    obtain ⟨_, _, _, e2⟩ := zpI_inv e1
    obtain ⟨_, _, _, e3⟩ := zpR_inv e2
    obtain ⟨_, _, ha, e4⟩ := zhZ_inv e3
    refine zgrow.tr ?_ (hgo _ _ _ _ (zif_inv e4).2)
    exact zgrow.set ha rfl (fun q => zro_N q ha)
  | lastore =>
    obtain ⟨_, _, _, e1⟩ := zpJ_inv he
    obtain ⟨_, _, _, e2⟩ := zpI_inv e1
    obtain ⟨_, _, _, e3⟩ := zpR_inv e2
    obtain ⟨_, _, ha, e4⟩ := zhJ_inv e3
    refine zgrow.tr ?_ (hgo _ _ _ _ (zif_inv e4).2)
    exact zgrow.set ha rfl (fun q => zro_N q ha)
  | aastore =>
    obtain ⟨_, _, _, e1⟩ := zpR_inv he
    obtain ⟨_, _, _, e2⟩ := zpI_inv e1
    obtain ⟨_, _, _, e3⟩ := zpR_inv e2
    obtain ⟨_, _, ha, e4⟩ := zhQ_inv e3
    obtain ⟨_, _, _, e5⟩ := zhO_inv e4
    refine zgrow.tr ?_ (hgo _ _ _ _ (zif_inv e5).2)
    exact zgrow.set ha rfl (fun q => zro_N q ha)
  | arraylength => obtain ⟨_, _, _, e1⟩ := zpR_inv he; obtain ⟨_, _, _, e2⟩ := zhA_inv e1; exact hgo _ _ _ _ e2
  | new ci => exact zgrow.app.tr (hgo _ _ _ _ he)
  | newarray t =>
    obtain ⟨_, _, _, e1⟩ := zpI_inv he
    have e2 := (zif_inv e1).2
    cases t <;> first | exact zgrow.app.tr (hgo _ _ _ _ e2) | cases e2
  | anewarray n => obtain ⟨_, _, _, e1⟩ := zpI_inv he; exact zgrow.app.tr (hgo _ _ _ _ (zif_inv e1).2)
  | invokevirtual k =>
    have e1 := (zif_inv he).2
    unfold zrcv at e1
    split at e1
    · obtain ⟨_, _, _, e2⟩ := zhO_inv e1
      obtain ⟨v, h1, g1, e3⟩ := hcall _ _ _ _ (zif_inv e2).2
      exact g1.tr (hgo _ _ _ _ e3)
    · cases e1
  | invokestatic k =>
    obtain ⟨v, h1, g1, e3⟩ := hcall _ _ _ _ (zif_inv he).2
    exact g1.tr (hgo _ _ _ _ e3)
  | invokespecial k =>
    have e1 := (zif_inv he).2
    unfold zrcI at e1
    split at e1
    · obtain ⟨v, h1, g1, e3⟩ := hcall _ _ _ _ e1
      exact g1.tr (hgo _ _ _ _ e3)
    · cases e1
  | pop => obtain ⟨_, _, _, e1⟩ := zpR_inv he; exact hgo _ _ _ _ (zif_inv e1).2
  | invokedynamic b =>
    have he : (if b = 1 then _ else if b = 2 then _ else if b = 3 then _ else none) = some x := he
    split at he
    · obtain ⟨_, _, _, e1⟩ := zpI_inv he; obtain ⟨_, _, _, e2⟩ := zpI_inv e1; exact hgo _ _ _ _ (zif_inv e2).2
    · split at he
      · obtain ⟨_, _, _, e1⟩ := zpI_inv he; obtain ⟨_, _, _, e2⟩ := zpI_inv e1; exact hgo _ _ _ _ (zif_inv e2).2
      · have he := (zif_inv he).2
        obtain ⟨_, _, _, e1⟩ := zpI_inv he
        obtain ⟨_, _, _, e2⟩ := zpI_inv e1
        obtain ⟨_, _, _, e3⟩ := zpR_inv e2
        obtain ⟨_, _, _, e4⟩ := zpI_inv e3
        obtain ⟨_, _, _, e5⟩ := zpR_inv e4
        obtain ⟨_, f0, _, e6⟩ := zhA_inv e5
        obtain ⟨_, f1, ha, e7⟩ := zhA_inv e6
        obtain ⟨hc, e8⟩ := zif_inv e7
        rcases f0 with f | f | f | f <;> rcases f1 with g | g | g | g <;> first | (cases e8; done) | (dsimp only at e8; refine zgrow.tr ?_ (hgo _ _ _ _ e8); exact zgrow.set ha rfl (fun _ => hc.2.1.1))
  | ireturn => obtain ⟨_, _, _, e1⟩ := zpI_inv he; have e2 := (zif_inv e1).2; cases e2; exact zgrow.rf
  | freturn => obtain ⟨_, _, _, e1⟩ := zpI_inv he; have e2 := (zif_inv e1).2; cases e2; exact zgrow.rf
  | lreturn => obtain ⟨_, _, _, e1⟩ := zpJ_inv he; have e2 := (zif_inv e1).2; cases e2; exact zgrow.rf
  | return_ => have e2 := (zif_inv he).2; cases e2; exact zgrow.rf
  | _ => cases he
end
/-- the call in a run -/
theorem zcall_inv {n k' : Nat} {as : List zV} {h : zH} {kont : Option zV → zH → Option (Option zV × zH)} {x : Option zV × zH} (he : (if (zexp as).length ≤ zmx k' then (match zrun n k' 0 (zloc k' as) [] h with
        | some (r, h1) => kont r h1
        | none => none) else none) = some x) : (zexp as).length ≤ zmx k' ∧ ∃ r h1, zrun n k' 0 (zloc k' as) [] h = some (r, h1) ∧ kont r h1 = some x := by
  obtain ⟨h1, h2⟩ := zif_inv he
  split at h2
  next r h1' hr => exact ⟨h1, r, h1', hr, h2⟩
  · cases h2
theorem zrun_grow {G : zG} : ∀ (n k pc : Nat) (ls st : List zV) (h : zH) (x : Option zV × zH), zrun n k pc ls st h = some x → zgrow G h x.2 := by
  intro n
  induction n with
  | zero => intro k pc ls st h x he; cases he
  | succ n ih =>
    intro k pc ls st h x he
    unfold zrun at he
    split at he
    · cases he
    · refine zstep_grow (fun pc ls st h he => ih _ _ _ _ _ _ he) (fun k as h kont he => ?_) he
      obtain ⟨-, r, h1, e1, e2⟩ := zcall_inv he
      exact ⟨r, h1, ih _ _ _ _ _ _ e1, e2⟩
theorem zow_all : (List.range 120).all (fun j => zst j || decide (zow j < 10)) = true := by decide +kernel
theorem zow_lt (j : Nat) (h : j < 120) (hs : zst j = false) : zow j < 10 := by
  have h1 := zow_all
  rw [List.all_eq_true] at h1
  have h2 := h1 j (List.mem_range.mpr h)
  rw [hs, Bool.false_or] at h2
  exact of_decide_eq_true h2
section
variable {G : zG} {l : Launch} {n k pc len : Nat} {r : Instr} {i : Instr} {ls st : List zV} {h : zH} {x : Option zV × zH}
theorem zlen_e {r : Instr} {len a : Nat} (h : zlen r len = true) (h2 : zlen r len = (len == a)) : len = a := by
  rw [h2] at h
  exact beq_iff_eq.mp h
theorem zrmI_e {k j : Nat} {b1 b2 b3 : Bool} (h : (b1 && b2 && b3) = true) : b1 = true ∧ b2 = true ∧ b3 = true := by
  cases b1 <;> cases b2 <;> cases b3 <;> simp_all
theorem zcall_row {j idx : Nat} {kont : Option zV → zH → Option (Option zV × zH)} (hjl : j < 120) (hq : zlk zml (zow k) idx = some j) (hroom : zfr j + 1 ≤ zfr k ∧ 8 + (zmx j + 11) + zlo j ≤ zlo k)
    (hla : zna j ≤ st.length ∧ zct (st.drop (zna j)) ≤ 8)
    (hi : (zst j = true ∧ decode (zb k) pc = .ok (.invokestatic idx, 3)) ∨ (zst j = false ∧ zis j = false ∧ decode (zb k) pc = .ok (.invokevirtual idx, 3) ∧ ∃ (a : Nat) (fs : List zV) (t : List zV), (st.take (zna j)).reverse = vR a :: t ∧ h[a]? = some (oO (zow j) fs) ∧ zow j < 10) ∨ (zst j = false ∧ zis j = true ∧ zrt j = none ∧ decode (zb k) pc = .ok (.invokespecial idx, 3) ∧ ∃ (a : Nat) (t : List zV), (st.take (zna j)).reverse = vR a :: t))
    (ih : ∀ (k pc : Nat) (ls st : List zV) (h : zH) (x : Option zV × zH), k < 121 → zrun n k pc ls st h = some x → zGoal G l k pc ls st h x) (hk : k < 121)
    (he : (if (zexp (st.take (zna j)).reverse).length ≤ zmx j then (match zrun n j 0 (zloc j (st.take (zna j)).reverse) [] h with
        | some (r, h1) => zrun n k (pc + 3) ls (r.toList ++ st.drop (zna j)) h1
        | none => none) else none) = some x) : zGoal G l k pc ls st h x := by
  obtain ⟨hlen, r, h1, e1, e2⟩ := zcall_inv (kont := fun r h1 => zrun n k (pc + 3) ls (r.toList ++ st.drop (zna j)) h1) he
  have g1 : zgrow G h h1 := zrun_grow _ _ _ _ _ _ _ e1
  have g2 : zgrow G h1 x.2 := zrun_grow _ _ _ _ _ _ _ e2
  exact zs_call hq (zm_ok j hjl) hroom hla rfl hi hlen g1 (ih _ _ _ _ _ _ (by omega) e1) ⟨g2.1, g2.2.1⟩ (ih _ _ _ _ _ _ hk e2)
end

set_option maxHeartbeats 4000000 in
/-- a run of the small machine is a run of the machine -/
theorem zsim {G : zG} {l : Launch} : ∀ (n k pc : Nat) (ls st : List zV) (h : zH) (x : Option zV × zH), k < 121 → zrun n k pc ls st h = some x → zGoal G l k pc ls st h x := by
  intro n
  induction n with
  | zero => intro k pc ls st h x hk he; cases he
  | succ n ih =>
    intro k pc ls st h x hk he
    unfold zrun at he
    split at he
    · cases he
    next i len hat =>
      obtain ⟨r, hd, hres, hlen, hrm⟩ := zat_inv hk hat
      have hgo : ∀ pc ls st h, zrun n k pc ls st h = some x → zGoal G l k pc ls st h x := fun pc ls st h he => ih k pc ls st h x hk he
      have hmo : ∀ pc ls st h, zrun n k pc ls st h = some x → h.length ≤ x.2.length ∧ zsz h ≤ zsz x.2 := fun pc ls st h he => ⟨(zrun_grow (G := G) _ _ _ _ _ _ _ he).1, (zrun_grow (G := G) _ _ _ _ _ _ _ he).2.1⟩
      cases r with
      | iconst z => cases hres; cases zlen_e hlen rfl; exact zs_iconst hd hgo he
      | bipush z => obtain ⟨hz, hres⟩ := zif_inv hres; cases hres; cases zlen_e hlen rfl; exact zs_bipush hz hd hgo he
      | sipush z => obtain ⟨hz, hres⟩ := zif_inv hres; cases hres; cases zlen_e hlen rfl; exact zs_sipush hz hd hgo he
      | lconst z => cases hres; cases zlen_e hlen rfl; exact zs_lconst hd hgo he
      | ldc2_w idx =>
        obtain ⟨v, hq, hv⟩ := Option.map_eq_some_iff.mp hres
        cases hv; cases zlen_e hlen rfl; exact zs_ldc2 hq hd hgo he
      | iload_n z => cases hres; cases zlen_e hlen rfl; exact zs_iload_n hd hgo he
      | iload z => cases hres; cases zlen_e hlen rfl; exact zs_iload hd hgo he
      | lload_n z => cases hres; cases zlen_e hlen rfl; exact zs_lload_n hd hgo he
      | lload z => cases hres; cases zlen_e hlen rfl; exact zs_lload hd hgo he
      | aload_n z => cases hres; cases zlen_e hlen rfl; exact zs_aload_n hd hgo he
      | aload z => cases hres; cases zlen_e hlen rfl; exact zs_aload hd hgo he
      | istore_n z => obtain ⟨hz, hres⟩ := zif_inv hres; cases hres; cases zlen_e hlen rfl; exact zs_istore_n hz hd hgo he
      | istore z => obtain ⟨hz, hres⟩ := zif_inv hres; cases hres; cases zlen_e hlen rfl; exact zs_istore hz hd hgo he
      | lstore_n z => obtain ⟨hz, hres⟩ := zif_inv hres; cases hres; cases zlen_e hlen rfl; exact zs_lstore_n hz hd hgo he
      | lstore z => obtain ⟨hz, hres⟩ := zif_inv hres; cases hres; cases zlen_e hlen rfl; exact zs_lstore hz hd hgo he
      | astore_n z => obtain ⟨hz, hres⟩ := zif_inv hres; cases hres; cases zlen_e hlen rfl; exact zs_astore_n hz hd hgo he
      | astore z => obtain ⟨hz, hres⟩ := zif_inv hres; cases hres; cases zlen_e hlen rfl; exact zs_astore hz hd hgo he
      | iinc z d => obtain ⟨hz, hres⟩ := zif_inv hres; cases hres; cases zlen_e hlen rfl; exact zs_iinc hz hd hgo he
      | iadd => cases hres; cases zlen_e hlen rfl; exact zs_iadd hd hgo he
      | isub => cases hres; cases zlen_e hlen rfl; exact zs_isub hd hgo he
      | imul => cases hres; cases zlen_e hlen rfl; exact zs_imul hd hgo he
      | idiv => cases hres; cases zlen_e hlen rfl; exact zs_idiv hd hgo he
      | irem => cases hres; cases zlen_e hlen rfl; exact zs_irem hd hgo he
      | iand => cases hres; cases zlen_e hlen rfl; exact zs_iand hd hgo he
      | ishl => cases hres; cases zlen_e hlen rfl; exact zs_ishl hd hgo he
      | ishr => cases hres; cases zlen_e hlen rfl; exact zs_ishr hd hgo he
      | ixor => cases hres; cases zlen_e hlen rfl; exact zs_ixor hd hgo he
      | ineg => cases hres; cases zlen_e hlen rfl; exact zs_ineg hd hgo he
      | dup_x2 => cases hres; cases zlen_e hlen rfl; exact zs_dup_x2 hd hgo he
      | pop => cases hres; cases zlen_e hlen rfl; exact zs_pop hd hgo he
      | ldc idx =>
        obtain ⟨v, hq, hv⟩ := Option.map_eq_some_iff.mp hres
        cases hv; cases zlen_e hlen rfl; exact zs_ldc hq hd hgo he
      | land => cases hres; cases zlen_e hlen rfl; exact zs_land hd hgo he
      | lor => cases hres; cases zlen_e hlen rfl; exact zs_lor hd hgo he
      | lshl => cases hres; cases zlen_e hlen rfl; exact zs_lshl hd hgo he
      | lushr => cases hres; cases zlen_e hlen rfl; exact zs_lushr hd hgo he
      | lcmp => cases hres; cases zlen_e hlen rfl; exact zs_lcmp hd hgo he
      | i2l => cases hres; cases zlen_e hlen rfl; exact zs_i2l hd hgo he
      | l2i => cases hres; cases zlen_e hlen rfl; exact zs_l2i hd hgo he
      | dup => cases hres; cases zlen_e hlen rfl; exact zs_dup hd hgo he
      | dup2 => cases hres; cases zlen_e hlen rfl; exact zs_dup2 hd hgo he
      | ifCond c o => obtain ⟨hz, hres⟩ := zif_inv hres; cases hres; cases zlen_e hlen rfl; exact zs_ifCond hz hd hgo he
      | if_icmp c o => obtain ⟨hz, hres⟩ := zif_inv hres; cases hres; cases zlen_e hlen rfl; exact zs_if_icmp hz hd hgo he
      | goto o => obtain ⟨hz, hres⟩ := zif_inv hres; cases hres; cases zlen_e hlen rfl; exact zs_goto hz hd hgo he
      | ifnonnull o => obtain ⟨hz, hres⟩ := zif_inv hres; cases hres; cases zlen_e hlen rfl; exact zs_ifnonnull hz hd hgo he
      | tableswitch d lo hi os => cases hres; exact zs_tableswitch hd hgo he
      | getfield idx =>
        obtain ⟨v, hq, hv⟩ := Option.map_eq_some_iff.mp hres
        cases hv; cases zlen_e hlen rfl; exact zs_getfield hq hd hgo he
      | putfield idx =>
        obtain ⟨v, hq, hv⟩ := Option.bind_eq_some_iff.mp hres
        obtain ⟨hz, hv⟩ := zif_inv hv
        cases hv; cases zlen_e hlen rfl; exact zs_putfield hq hz hd hgo he
      | getstatic idx =>
        obtain ⟨v, hq, hv⟩ := Option.map_eq_some_iff.mp hres
        cases hv; cases zlen_e hlen rfl; exact zs_getstatic hq hd hgo he
      | iaload => cases hres; cases zlen_e hlen rfl; exact zs_iaload hd hgo he
      | laload => cases hres; cases zlen_e hlen rfl; exact zs_laload hd hgo he
      | baload => cases hres; cases zlen_e hlen rfl; exact zs_baload hd hgo he
      | aaload => cases hres; cases zlen_e hlen rfl; exact zs_aaload hd hgo he
      | iastore => cases hres; cases zlen_e hlen rfl; exact zs_iastore hd hgo he
      | lastore => cases hres; cases zlen_e hlen rfl; exact zs_lastore hd hgo he
      | bastore => cases hres; cases zlen_e hlen rfl; exact zs_bastore hd hgo he
      | aastore => cases hres; cases zlen_e hlen rfl; exact zs_aastore hd hgo he
      | arraylength => cases hres; cases zlen_e hlen rfl; exact zs_arraylength hd hgo he
      | new idx =>
        obtain ⟨v, hq, hv⟩ := Option.map_eq_some_iff.mp hres
        cases hv; cases zlen_e hlen rfl; exact zs_new hq hmo hd hgo he
      | newarray t =>
        cases hres; cases zlen_e hlen rfl
        cases t with
        | int => exact zs_newarray_i hmo hd hgo he
        | boolean => exact zs_newarray_z hmo hd hgo he
        | long => exact zs_newarray_j hmo hd hgo he
        | _ =>
          obtain ⟨_, _, _, e1⟩ := zpI_inv he
          cases (zif_inv e1).2
      | anewarray idx =>
        obtain ⟨v, hq, hv⟩ := Option.bind_eq_some_iff.mp hres
        obtain ⟨hz, hv⟩ := zif_inv hv
        subst hz
        cases hv; cases zlen_e hlen rfl; exact zs_anewarray hq hmo hd hgo he
      | invokevirtual idx =>
        obtain ⟨j, hq, hv⟩ := Option.bind_eq_some_iff.mp hres
        obtain ⟨hz, hv⟩ := zif_inv hv
        cases hv; cases zlen_e hlen rfl
        obtain ⟨r1, r2, r3⟩ := zrmI_e (k := k) (j := j) hrm
        obtain ⟨hla, he⟩ := zif_inv he
        unfold zrcv at he
        split at he
        next a t hat =>
          obtain ⟨c', fs, ha, he5⟩ := zhO_inv he
          obtain ⟨hc', he6⟩ := zif_inv he5
          rw [hc'] at ha
          have hjl := of_decide_eq_true r1
          have hcl : zow j < 10 := zow_lt j hjl hz.1
          exact zcall_row (kont := fun _ _ => none) hjl hq ⟨of_decide_eq_true r2, of_decide_eq_true r3⟩ hla (Or.inr (Or.inl ⟨hz.1, hz.2, hd, a, fs, t, hat, ha, hcl⟩)) ih hk he6
        · cases he
      | invokestatic idx =>
        have hres : (match zlk zml (zow k) idx with
          | some j => if zst j = true then some (Instr.invokestatic j) else none
          | none => (zlk zbl (zow k) idx).bind fun j => if j = 0 then none else some (.invokedynamic j)) = some i := hres
        split at hres
        next j hq =>
          obtain ⟨hz, hv⟩ := zif_inv hres
          cases hv; cases zlen_e hlen rfl
          obtain ⟨r1, r2, r3⟩ := zrmI_e (k := k) (j := j) hrm
          obtain ⟨hla, he⟩ := zif_inv he
          exact zcall_row (kont := fun _ _ => none) (of_decide_eq_true r1) hq ⟨of_decide_eq_true r2, of_decide_eq_true r3⟩ hla (Or.inl ⟨hz, hd⟩) ih hk he
        next hq =>
          obtain ⟨j, hq2, hv⟩ := Option.bind_eq_some_iff.mp hres
          split at hv
          · cases hv
          next hj0 =>
            cases hv; cases zlen_e hlen rfl
            have hrm : (decide (1 ≤ zfr k) && decide ((if j = 3 then 26 else 21) ≤ zlo k)) = true := hrm
            rw [Bool.and_eq_true, decide_eq_true_eq, decide_eq_true_eq] at hrm
            have hj3 : j ≤ 3 := (zbl_ok _ (zlk_mem hq2)).1
            rcases (show j = 1 ∨ j = 2 ∨ j = 3 by omega) with rfl | rfl | rfl
            · exact zs_max hq2 hmo hrm.1 hrm.2 hd hgo he
            · exact zs_min hq2 hmo hrm.1 hrm.2 hd hgo he
            · exact zs_arraycopy hq2 hrm.1 hrm.2 hd hgo he
      | invokespecial idx =>
        have hres : (match zlk zml (zow k) idx with
          | some j => if zst j = false ∧ zis j = true ∧ zrt j = none then some (Instr.invokespecial j) else none
          | none => (zlk zbl (zow k) idx).bind fun j => if j = 0 then some .pop else none) = some i := hres
        split at hres
        next j hq =>
          obtain ⟨hz, hv⟩ := zif_inv hres
          cases hv; cases zlen_e hlen rfl
          obtain ⟨r1, r2, r3⟩ := zrmI_e (k := k) (j := j) hrm
          obtain ⟨hla, he⟩ := zif_inv he
          unfold zrcI at he
          split at he
          next a t hat =>
            exact zcall_row (kont := fun _ _ => none) (of_decide_eq_true r1) hq ⟨of_decide_eq_true r2, of_decide_eq_true r3⟩ hla (Or.inr (Or.inr ⟨hz.1, hz.2.1, hz.2.2, hd, a, t, hat⟩)) ih hk he
          · cases he
        next hq =>
          obtain ⟨j, hq2, hv⟩ := Option.bind_eq_some_iff.mp hres
          obtain ⟨hz, hv⟩ := zif_inv hv
          subst hz
          cases hv; cases zlen_e hlen rfl
          have hrm : (decide (1 ≤ zfr k) && decide (20 ≤ zlo k)) = true := hrm
          rw [Bool.and_eq_true, decide_eq_true_eq, decide_eq_true_eq] at hrm
          exact zs_objInit hq2 hrm.1 hrm.2 hd hgo he
      | ireturn =>
        cases zlen_e hlen rfl
        have hres : (if zrt k = some .int then some Instr.ireturn else if zrt k = some .boolean then some .freturn else none) = some i := hres
        split at hres
        next hrt =>
          cases hres
          obtain ⟨z, r, rfl, he5⟩ := zpI_inv he
          obtain ⟨hr0, he6⟩ := zif_inv he5
          subst hr0
          exact zs_ret he6 rfl ⟨hd, Or.inl hrt⟩
        next =>
          obtain ⟨hrt, hres⟩ := zif_inv hres
          cases hres
          obtain ⟨z, r, rfl, he5⟩ := zpI_inv he
          obtain ⟨⟨hr0, hz⟩, he6⟩ := zif_inv he5
          subst hr0
          exact zs_ret he6 rfl ⟨hd, Or.inr ⟨hrt, hz⟩⟩
      | lreturn =>
        cases zlen_e hlen rfl
        obtain ⟨hrt, hres⟩ := zif_inv hres
        cases hres
        obtain ⟨z, r, rfl, he5⟩ := zpJ_inv he
        obtain ⟨hr0, he6⟩ := zif_inv he5
        subst hr0
        exact zs_ret he6 rfl ⟨hd, hrt⟩
      | return_ =>
        cases zlen_e hlen rfl
        obtain ⟨hrt, hres⟩ := zif_inv hres
        cases hres
        obtain ⟨hr0, he6⟩ := zif_inv he
        subst hr0
        exact zs_ret he6 rfl ⟨hd, hrt⟩
      | _ => cases hres
