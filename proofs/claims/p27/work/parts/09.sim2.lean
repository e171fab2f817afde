section
variable {G : zG} {l : Launch} {k pc : Nat} {ls st : List zV} {h : zH} {x : Option zV × zH} {go : Nat → List zV → List zV → zH → Option (Option zV × zH)}
theorem z_upd (f : Nat → Int) (j : Nat) (z : Int) : upd (fun j => Int32.ofInt (f j)) j (Int32.ofInt z) = fun i => Int32.ofInt (va_up f j z i) := by
  funext i
  unfold upd va_up
  split <;> rfl
theorem z_updL (f : Nat → Nat) (j : Nat) (z : Nat) : vp_updL (fun j => Int64.ofNat (f j)) j (Int64.ofNat z) = fun i => Int64.ofNat (va_up f j z i) := by
  funext i
  unfold vp_updL va_up
  split <;> rfl
theorem z_updQ {G : zG} (f : Nat → Option Nat) (j v : Nat) (h3 : 3 ≤ v) : va_up (fun j => (f j).map (zad G)) j (some (gsz G + (v - 3))) = fun i => (va_up f j (some v) i).map (zad G) := by
  funext i
  unfold va_up
  split
  · rw [Option.map_some, zad_ge h3]
  · rfl
theorem z_nar {z : Int} (h : z = 0 ∨ z = 1) : vp_nar .boolean (Int32.ofInt z) = Int32.ofInt z := by
  rcases h with rfl | rfl <;> rfl
theorem zfit_ok {G : zG} {kind : Nat} {ty : FieldType} {v : zV} {fin : Bool} {C D : String} (hk : (kind = 0 ∧ ty = .int ∧ fin = false) ∨ (kind = 1 ∧ ty = .boolean ∧ fin = false) ∨ (kind = 12 ∧ ((∃ c, ty = .object c) ∨ ∃ t, ty = .array t) ∧ fin = true ∧ C = D)) (hf : zfit kind v = true) : narrow ty (zrV G v) = zrV G v ∧ fits ty (zrV G v) = true := by
  rcases hk with ⟨rfl, rfl, -⟩ | ⟨rfl, rfl, -⟩ | ⟨rfl, ht, -⟩
  · rcases v with z | n | q | u
    · exact ⟨rfl, rfl⟩
    · cases hf
    · simp [zfit] at hf
    · cases hf
  · rcases v with z | n | q | u
    · simp [zfit] at hf
      rcases hf with rfl | rfl
      · exact ⟨rfl, rfl⟩
      · exact ⟨rfl, rfl⟩
    · cases hf
    · simp [zfit] at hf
    · cases hf
  · rcases v with z | n | q | u
    · simp [zfit] at hf
    · cases hf
    · rcases ht with ⟨c, rfl⟩ | ⟨t, rfl⟩ <;> cases q <;> exact ⟨rfl, rfl⟩
    · cases hf
set_option maxRecDepth 20000 in
theorem zs_putfield {idx ci sl : Nat} (hq : zlk zfl (zow k) idx = some (ci, sl)) (hf : zkind ci sl < 10 ∨ (zis k = true ∧ ci = zow k)) (hd : decode (zb k) pc = .ok (.putfield idx, 3)) (hgo : ∀ pc ls st h, go pc ls st h = some x → zGoal G l k pc ls st h x) (he : (zpop none st fun v r => zpR none r fun a r => zhO none h[a]? fun c fs => if (c = ci ∧ sl < fs.length) ∧ zfit (zkind ci sl) v = true then go (pc + 3) ls r (h.set a (oO c (fs.set sl v))) else none) = some x) : zGoal G l k pc ls st h x := by
  obtain ⟨v, r, rfl, he1⟩ := zpop_inv he
  obtain ⟨a, r, rfl, he2⟩ := zpR_inv he1
  obtain ⟨c0, fs, ha, he3⟩ := zhO_inv he2
  obtain ⟨⟨⟨rfl, hlen⟩, hfit⟩, he4⟩ := zif_inv he3
  intro p e R s m args below meth c H locs cells slots tc ts lsr Q F I hc e1 e2 b1 b2 hl K
  have h3 := zro_O I.2.2.1 ha
  obtain ⟨C, T, N, hcl, hsl, hk⟩ := zfl_ok _ (zlk_mem hq)
  have hsl : sl < N := hsl
  have hci : c0 < 10 := (List.getElem?_eq_some_iff.mp hcl).1
  obtain ⟨C', T', N', ty, hcl', hcn, hin, hty, hnm, -, hkd, -⟩ := zcl_ok c0 hci
  cases hcl.symm.trans hcl'
  have hkd := hkd sl hsl
  obtain ⟨hn, hfi⟩ := zfit_ok (G := G) hkd hfit
  have hw : (Sum.inr (c0, (fs.map (zrV G)).set sl (zrV G v)) : va_E) = zre G (oO c0 (fs.set sl v)) := by
    show _ = (Sum.inr (c0, (fs.set sl v).map (zrV G)) : va_E)
    rw [List.map_set]
  have hzs : zsE (oO c0 (fs.set sl v)) = zsE (oO c0 fs) := by simp [zsE]
  rw [List.map_cons, List.map_cons, zrV_R h3]
  have hll : sl < (fs.map (zrV G)).length := by rw [List.length_map]; exact hlen
  by_cases hfin : zkind c0 sl < 10
  · have hf0 : (T sl).2.2.2 = false := by
      rcases hkd with ⟨-, -, h9⟩ | ⟨-, -, h9⟩ | ⟨h9, -⟩
      · exact h9
      · exact h9
      · omega
    rcases hk with hk | ⟨host, hk, -⟩
    · exact va_put F.1 F.2.1 F.2.2.2.2.1 (fun w hw => zW_iff.mpr (hin w hw)) ty hty hnm F.2.2.2.1 F.2.2.2.2.2.2.2.2.1 I.1 (zww_D G h) I.2.2.2 (a - 3) (zww_at h3 ha) hcl sl hsl (zFx_w F hk) (fun _ h9 => h9) hf0 (hty sl hsl) hn hfi hll hd (fun H1 locs1 hP1 hD1 hS1 => zSize hc (zlow_set I ha h3 hw hP1) (fun hz => hgo _ _ _ _ he4 p e R s m args below meth c H1 locs1 cells slots tc ts _ Q F (zIn_set I ha h3 hw hP1 hS1 hz) (by rw [hz]; exact hc) (by rw [List.length_set]; exact e1) (by rw [(zsz_set _ _ _ _ ha hzs : zsz (h.set a (oO c0 (fs.set sl v))) = zsz h)]; exact e2) b1 b2 hl K))
    · exact va_putN F.1 F.2.1 F.2.2.2.2.1 (fun w hw => zW_iff.mpr (hin w hw)) ty hty hnm F.2.2.2.1 F.2.2.2.2.2.2.2.2.1 I.1 (zww_D G h) I.2.2.2 (a - 3) (zww_at h3 ha) hcl sl hsl (zFx_w F hk) (fun _ h9 => h9) hf0 (hty sl hsl) hn hfi hll hd (fun H1 locs1 hP1 hD1 hS1 => zSize hc (zlow_set I ha h3 hw hP1) (fun hz => hgo _ _ _ _ he4 p e R s m args below meth c H1 locs1 cells slots tc ts _ Q F (zIn_set I ha h3 hw hP1 hS1 hz) (by rw [hz]; exact hc) (by rw [List.length_set]; exact e1) (by rw [(zsz_set _ _ _ _ ha hzs : zsz (h.set a (oO c0 (fs.set sl v))) = zsz h)]; exact e2) b1 b2 hl K))
  · obtain ⟨hi, hci2⟩ : zis k = true ∧ c0 = zow k := hf.resolve_left hfin
    have hf1 : (T sl).2.2.2 = true ∧ (T sl).1 = C := by
      rcases hkd with ⟨h9, -⟩ | ⟨h9, -⟩ | ⟨-, -, h8, h9⟩
      · omega
      · omega
      · exact ⟨h8, h9⟩
    rcases hk with hk | ⟨host, -, hk⟩
    · exact va_putF F.1 F.2.1 F.2.2.2.2.1 (fun w hw => zW_iff.mpr (hin w hw)) ty hty hnm F.2.2.2.1 F.2.2.2.2.2.2.2.2.1 I.1 (zww_D G h) I.2.2.2 (a - 3) (zww_at h3 ha) hcl sl hsl (zFx_w F hk) (fun _ h9 => h9) hf1.1 (F.2.2.2.2.2.1 hi) (by rw [hf1.2, ← hcn, hci2]) (hty sl hsl) hn hfi hll hd (fun H1 locs1 hP1 hD1 hS1 => zSize hc (zlow_set I ha h3 hw hP1) (fun hz => hgo _ _ _ _ he4 p e R s m args below meth c H1 locs1 cells slots tc ts _ Q F (zIn_set I ha h3 hw hP1 hS1 hz) (by rw [hz]; exact hc) (by rw [List.length_set]; exact e1) (by rw [(zsz_set _ _ _ _ ha hzs : zsz (h.set a (oO c0 (fs.set sl v))) = zsz h)]; exact e2) b1 b2 hl K))
    · exact absurd hci2.symm hk
set_option maxRecDepth 20000 in
theorem zs_iastore (hd : decode (zb k) pc = .ok (.iastore, 1)) (hgo : ∀ pc ls st h, go pc ls st h = some x → zGoal G l k pc ls st h x) (he : (zpI none st fun z r => zpI none r fun i r => zpR none r fun a r => zhI none h[a]? fun n f => if zix i n ∧ 3 ≤ a then go (pc + 1) ls r (h.set a (aI n (va_up f i.toNat z))) else none) = some x) : zGoal G l k pc ls st h x := by
  obtain ⟨z, r, rfl, he1⟩ := zpI_inv he
  obtain ⟨i, r, rfl, he2⟩ := zpI_inv he1
  obtain ⟨a, r, rfl, he3⟩ := zpR_inv he2
  obtain ⟨n, f, ha, he4⟩ := zhI_inv he3
  obtain ⟨hcond, he5⟩ := zif_inv he4
  intro p e R s m args below meth c H locs cells slots tc ts lsr Q F I hc e1 e2 b1 b2 hl K
  obtain ⟨hin, hcl⟩ := z_in hcond.1
  have h3 : 3 ≤ a := hcond.2
  rw [List.map_cons, List.map_cons, List.map_cons, zrV_R h3]
  refine va_iast F.1 F.2.1 F.2.2.2.2.2.2.2.2.1 I.1 (zww_D G h) I.2.2.2 (a - 3) 0 (zww_at h3 ha) rfl hin hd (fun H1 locs1 hP1 hD1 hS1 => ?_)
  rw [hcl, z_upd] at hP1
  have hw := (rfl : zre G (aI n (va_up f i.toNat z)) = zre G (aI n (va_up f i.toNat z)))
  exact zSize hc (zlow_set I ha h3 hw hP1) (fun hz => hgo _ _ _ _ he5 p e R s m args below meth c H1 locs1 cells slots tc ts _ Q F (zIn_set I ha h3 hw hP1 hS1 hz) (by rw [hz]; exact hc) (by rw [List.length_set]; exact e1) (by rw [(zsz_set _ _ _ _ ha rfl : zsz (h.set a (aI n (va_up f i.toNat z))) = zsz h)]; exact e2) b1 b2 hl K)
set_option maxRecDepth 20000 in
theorem zs_bastore (hd : decode (zb k) pc = .ok (.bastore, 1)) (hgo : ∀ pc ls st h, go pc ls st h = some x → zGoal G l k pc ls st h x) (he : (zpI none st fun z r => zpI none r fun i r => zpR none r fun a r => zhZ none h[a]? fun n f => if zix i n ∧ (z = 0 ∨ z = 1) then go (pc + 1) ls r (h.set a (aZ n (va_up f i.toNat z))) else none) = some x) : zGoal G l k pc ls st h x := by
  obtain ⟨z, r, rfl, he1⟩ := zpI_inv he
  obtain ⟨i, r, rfl, he2⟩ := zpI_inv he1
  obtain ⟨a, r, rfl, he3⟩ := zpR_inv he2
  obtain ⟨n, f, ha, he4⟩ := zhZ_inv he3
  obtain ⟨hcond, he5⟩ := zif_inv he4
  intro p e R s m args below meth c H locs cells slots tc ts lsr Q F I hc e1 e2 b1 b2 hl K
  obtain ⟨hin, hcl⟩ := z_in hcond.1
  have h3 : 3 ≤ a := zro_N I.2.2.1 ha
  rw [List.map_cons, List.map_cons, List.map_cons, zrV_R h3]
  refine va_zast F.1 F.2.1 F.2.2.2.2.2.2.2.2.1 I.1 (zww_D G h) I.2.2.2 (a - 3) 1 (zww_at h3 ha) rfl hin hd (fun H1 locs1 hP1 hD1 hS1 => ?_)
  rw [hcl, z_nar hcond.2, z_upd] at hP1
  have hw := (rfl : zre G (aZ n (va_up f i.toNat z)) = zre G (aZ n (va_up f i.toNat z)))
  exact zSize hc (zlow_set I ha h3 hw hP1) (fun hz => hgo _ _ _ _ he5 p e R s m args below meth c H1 locs1 cells slots tc ts _ Q F (zIn_set I ha h3 hw hP1 hS1 hz) (by rw [hz]; exact hc) (by rw [List.length_set]; exact e1) (by rw [(zsz_set _ _ _ _ ha rfl : zsz (h.set a (aZ n (va_up f i.toNat z))) = zsz h)]; exact e2) b1 b2 hl K)
set_option maxRecDepth 20000 in
theorem zs_lastore (hd : decode (zb k) pc = .ok (.lastore, 1)) (hgo : ∀ pc ls st h, go pc ls st h = some x → zGoal G l k pc ls st h x) (he : (zpJ none st fun z r => zpI none r fun i r => zpR none r fun a r => zhJ none h[a]? fun n f => if zix i n then go (pc + 1) ls r (h.set a (aJ n (va_up f i.toNat z))) else none) = some x) : zGoal G l k pc ls st h x := by
  obtain ⟨z, r, rfl, he1⟩ := zpJ_inv he
  obtain ⟨i, r, rfl, he2⟩ := zpI_inv he1
  obtain ⟨a, r, rfl, he3⟩ := zpR_inv he2
  obtain ⟨n, f, ha, he4⟩ := zhJ_inv he3
  obtain ⟨hcond, he5⟩ := zif_inv he4
  intro p e R s m args below meth c H locs cells slots tc ts lsr Q F I hc e1 e2 b1 b2 hl K
  obtain ⟨hin, hcl⟩ := z_in hcond
  have h3 : 3 ≤ a := zro_N I.2.2.1 ha
  rw [List.map_cons, List.map_cons, List.map_cons, zrV_R h3]
  refine va_last F.1 F.2.1 F.2.2.2.2.2.2.2.2.1 I.1 (zww_D G h) I.2.2.2 (a - 3) 2 (zww_at h3 ha) rfl hin hd (fun H1 locs1 hP1 hD1 hS1 => ?_)
  rw [hcl, z_updL] at hP1
  have hw := (rfl : zre G (aJ n (va_up f i.toNat z)) = zre G (aJ n (va_up f i.toNat z)))
  exact zSize hc (zlow_set I ha h3 hw hP1) (fun hz => hgo _ _ _ _ he5 p e R s m args below meth c H1 locs1 cells slots tc ts _ Q F (zIn_set I ha h3 hw hP1 hS1 hz) (by rw [hz]; exact hc) (by rw [List.length_set]; exact e1) (by rw [(zsz_set _ _ _ _ ha rfl : zsz (h.set a (aJ n (va_up f i.toNat z))) = zsz h)]; exact e2) b1 b2 hl K)
set_option maxRecDepth 20000 in
theorem zs_aastore (hd : decode (zb k) pc = .ok (.aastore, 1)) (hgo : ∀ pc ls st h, go pc ls st h = some x → zGoal G l k pc ls st h x) (he : (zpR none st fun v r => zpI none r fun i r => zpR none r fun a r => zhQ none h[a]? fun n f => zhO none h[v]? fun c _ => if zix i n ∧ c = 6 then go (pc + 1) ls r (h.set a (aQ n (va_up f i.toNat (some v)))) else none) = some x) : zGoal G l k pc ls st h x := by
  obtain ⟨v, r, rfl, he1⟩ := zpR_inv he
  obtain ⟨i, r, rfl, he2⟩ := zpI_inv he1
  obtain ⟨a, r, rfl, he3⟩ := zpR_inv he2
  obtain ⟨n, f, ha, he4⟩ := zhQ_inv he3
  obtain ⟨c0, fs, hv, he5⟩ := zhO_inv he4
  obtain ⟨⟨hi, rfl⟩, he6⟩ := zif_inv he5
  intro p e R s m args below meth c H locs cells slots tc ts lsr Q F I hc e1 e2 b1 b2 hl K
  obtain ⟨hin, hcl⟩ := z_in hi
  have h3 : 3 ≤ a := zro_N I.2.2.1 ha
  have h4 : 3 ≤ v := zro_O I.2.2.1 hv
  rw [List.map_cons, List.map_cons, List.map_cons, zrV_R h3, zrV_R h4]
  refine va_astq F.1 F.2.1 F.2.2.2.2.2.2.2.2.1 I.1 (zww_D G h) I.2.2.2 (a - 3) 3 (v - 3) 6 (r := (RX6, TX6, 3)) (zww_at h3 ha) rfl (zww_at h4 hv) rfl hin hd (fun H1 locs1 hP1 hD1 hS1 => ?_)
  rw [hcl, z_updQ f _ _ h4] at hP1
  have hw := (rfl : zre G (aQ n (va_up f i.toNat (some v))) = zre G (aQ n (va_up f i.toNat (some v))))
  exact zSize hc (zlow_set I ha h3 hw hP1) (fun hz => hgo _ _ _ _ he6 p e R s m args below meth c H1 locs1 cells slots tc ts _ Q F (zIn_set I ha h3 hw hP1 hS1 hz) (by rw [hz]; exact hc) (by rw [List.length_set]; exact e1) (by rw [(zsz_set _ _ _ _ ha rfl : zsz (h.set a (aQ n (va_up f i.toNat (some v)))) = zsz h)]; exact e2) b1 b2 hl K)
theorem zdef_v {G : zG} {ci j N : Nat} {ty : Nat → FieldType} {fin : Nat → Bool} {C : String} {D : Nat → String} (hl : (zkinds.getD ci []).length = N) (hk : ∀ k, k < N → (zkind ci k = 0 ∧ ty k = .int ∧ fin k = false) ∨ (zkind ci k = 1 ∧ ty k = .boolean ∧ fin k = false) ∨ (zkind ci k = 12 ∧ ((∃ c, ty k = .object c) ∨ ∃ t, ty k = .array t) ∧ fin k = true ∧ D k = C)) (hj : j < N) : defaultValue (ty j) = vp_V ((zdef ci).map (zrV G)) j := by
  have hg : (zkinds.getD ci [])[j]? = some (zkind ci j) := by
    unfold zkind
    rw [List.getD_eq_getElem?_getD, List.getD_eq_getElem?_getD, List.getElem?_eq_getElem (by rw [← List.getD_eq_getElem?_getD, hl]; exact hj)]
    rfl
  have hv : vp_V ((zdef ci).map (zrV G)) j = zrV G (if zkind ci j = 12 then vN else vI 0) := by
    unfold vp_V zdef
    rw [List.getD_eq_getElem?_getD, List.getElem?_map, List.getElem?_map, hg]
    rfl
  rw [hv]
  rcases hk j hj with ⟨h1, h2, -⟩ | ⟨h1, h2, -⟩ | ⟨h1, ⟨t, h2⟩ | ⟨t, h2⟩, -⟩
  · rw [h1, h2]; rfl
  · rw [h1, h2]; rfl
  · rw [h1, h2]; rfl
  · rw [h1, h2]; rfl
set_option maxRecDepth 20000 in
theorem zs_new {idx ci : Nat} (hq : zlk zkl (zow k) idx = some ci) (hmo : ∀ pc ls st h, go pc ls st h = some x → h.length ≤ x.2.length ∧ zsz h ≤ zsz x.2) (hd : decode (zb k) pc = .ok (.new idx, 3)) (hgo : ∀ pc ls st h, go pc ls st h = some x → zGoal G l k pc ls st h x) (he : go (pc + 3) ls (vR h.length :: st) (h ++ [oO ci (zdef ci)]) = some x) : zGoal G l k pc ls st h x := by
  have hm := hmo _ _ _ _ he
  rw [List.length_append, zsz_app] at hm
  simp only [List.length_cons, List.length_nil, zsE] at hm
  intro p e R s m args below meth c H locs cells slots tc ts lsr Q F I hc e1 e2 b1 b2 hl K
  obtain ⟨hk, hci⟩ := zkl_ok _ (zlk_mem hq)
  have hci : ci < 10 := hci
  obtain ⟨C, T, N, ty, hcl, hcn, hin, hty, hnm, hkl, hkd, hw1, hw2⟩ := zcl_ok ci hci
  have hk : zW (.classLink (zcn (zow k)) idx (zcn ci)) := hk
  rw [hcn] at hk
  have hzl : (zdef ci).length = N := by
    unfold zdef
    rw [List.length_map, hkl]
  rw [hzl] at hm
  refine va_new (ci := ci) (fs := (zdef ci).map (zrV G)) F.1 F.2.1 F.2.2.2.2.1 (fun w hw => zW_iff.mpr (hin w hw)) ty hty F.2.2.2.1 (zFx_w F hk) (zFx_w F hw1) (zFx_w F hw2) F.2.2.2.2.2.2.2.2.1 I.1 (zww_D G h) I.2.2.2 (fun q hq => Nat.le_trans F.2.2.2.2.2.2.2.2.2.2.2.2.2.2.2.1 hq) hcl (fun j hj => zdef_v hkl hkd hj) (by omega) (by omega) hd (fun q H1 hP1 hD1 hS1 => ?_)
  refine zNew (G := G) (h := h) (N := H.size) (by omega) I.2.1 hP1 hD1 (fun hq hz => ?_)
  subst hq
  have hlen := zro_3 I.2.2.1
  have I2 : zIn G s (h ++ [oO ci (zdef ci)]) H1 locs := by
    refine ⟨?_, ?_, zro_app I.2.2.1, hS1⟩
    · rw [zww_app _ hlen, ← I.2.1]
      exact hP1
    · rw [hz, I.2.1, List.length_append]
      simp only [List.length_cons, List.length_nil]
      omega
  have hst : zrV G (vR h.length) = .ref H.size := by rw [zrV_R hlen, I.2.1]
  rw [← hst]
  exact hgo _ _ _ _ he p e R s m args below meth c H1 locs (cells + 1) (slots + N) tc ts _ Q F I2 (by rw [hz]; omega) (by rw [List.length_append]; simp only [List.length_cons, List.length_nil]; omega) (by rw [zsz_app]; simp only [zsE, hzl]; omega) b1 b2 hl K
set_option maxRecDepth 20000 in
theorem zs_newarray_i (hmo : ∀ pc ls st h, go pc ls st h = some x → h.length ≤ x.2.length ∧ zsz h ≤ zsz x.2) (hd : decode (zb k) pc = .ok (.newarray .int, 2)) (hgo : ∀ pc ls st h, go pc ls st h = some x → zGoal G l k pc ls st h x) (he : (zpI none st fun n r => if 0 ≤ n ∧ n ≤ 100000 then go (pc + 2) ls (vR h.length :: r) (h ++ [aI n.toNat fun _ => 0]) else none) = some x) : zGoal G l k pc ls st h x := by
  obtain ⟨n, r, rfl, he1⟩ := zpI_inv he
  obtain ⟨hn, he2⟩ := zif_inv he1
  have hm := hmo _ _ _ _ he2
  rw [List.length_append, zsz_app] at hm
  simp only [List.length_cons, List.length_nil, zsE] at hm
  intro p e R s m args below meth c H locs cells slots tc ts lsr Q F I hc e1 e2 b1 b2 hl K
  obtain ⟨n1, n2⟩ := z_nn hn.1 (by omega)
  refine va_newa (atype := .int) (ty := .int) (a0 := (n.toNat, .inl (fun _ => Int32.ofInt 0))) F.1 F.2.1 (zFx_w F zwj_ai) rfl F.2.2.2.2.2.2.2.2.1 I.1 (zww_D G h) I.2.2.2 (fun q hq => Nat.le_trans F.2.2.2.2.2.2.2.2.2.2.2.2.2.2.2.1 hq) (fun cA => rfl) n1 n2 (by show n.toNat * 4 ≤ _; omega) (by omega) (by omega) hd (fun q cA H1 hK1 hP1 hD1 hS1 => ?_)
  have hcA : cA = gcI G := Option.some.inj ((show s.vm.findClass ("[" ++ (FieldType.int).toString) = some cA from (hK1.2 4 _ rfl).2).symm.trans (show s.vm.findClass ("[" ++ (FieldType.int).toString) = some (gcI G) from (F.2.2.2.2.2.2.2.2.1.2 0 _ rfl).2))
  subst hcA
  refine zNew (G := G) (h := h) (N := H.size) (by omega) I.2.1 hP1 hD1 (fun hq hz => ?_)
  subst hq
  have hlen := zro_3 I.2.2.1
  have I2 : zIn G s (h ++ [aI n.toNat fun _ => 0]) H1 locs := by
    refine ⟨?_, ?_, zro_app I.2.2.1, hS1⟩
    · rw [zww_app _ hlen, ← I.2.1]
      exact hP1
    · rw [hz, I.2.1, List.length_append]
      simp only [List.length_cons, List.length_nil]
      omega
  have hst : zrV G (vR h.length) = .ref H.size := by rw [zrV_R hlen, I.2.1]
  rw [← hst]
  exact hgo _ _ _ _ he2 p e R s m args below meth c H1 locs (cells + 1) (slots + n.toNat) tc ts _ Q F I2 (by rw [hz]; omega) (by rw [List.length_append]; simp only [List.length_cons, List.length_nil]; omega) (by rw [zsz_app]; simp only [zsE]; omega) b1 b2 hl K
set_option maxRecDepth 20000 in
theorem zs_newarray_z (hmo : ∀ pc ls st h, go pc ls st h = some x → h.length ≤ x.2.length ∧ zsz h ≤ zsz x.2) (hd : decode (zb k) pc = .ok (.newarray .boolean, 2)) (hgo : ∀ pc ls st h, go pc ls st h = some x → zGoal G l k pc ls st h x) (he : (zpI none st fun n r => if 0 ≤ n ∧ n ≤ 100000 then go (pc + 2) ls (vR h.length :: r) (h ++ [aZ n.toNat fun _ => 0]) else none) = some x) : zGoal G l k pc ls st h x := by
  obtain ⟨n, r, rfl, he1⟩ := zpI_inv he
  obtain ⟨hn, he2⟩ := zif_inv he1
  have hm := hmo _ _ _ _ he2
  rw [List.length_append, zsz_app] at hm
  simp only [List.length_cons, List.length_nil, zsE] at hm
  intro p e R s m args below meth c H locs cells slots tc ts lsr Q F I hc e1 e2 b1 b2 hl K
  obtain ⟨n1, n2⟩ := z_nn hn.1 (by omega)
  refine va_newa (atype := .boolean) (ty := .boolean) (a0 := (n.toNat, .inl (fun _ => Int32.ofInt 0))) F.1 F.2.1 (zFx_w F zwj_az) rfl F.2.2.2.2.2.2.2.2.1 I.1 (zww_D G h) I.2.2.2 (fun q hq => Nat.le_trans F.2.2.2.2.2.2.2.2.2.2.2.2.2.2.2.1 hq) (fun cA => rfl) n1 n2 (by show n.toNat * 1 ≤ _; omega) (by omega) (by omega) hd (fun q cA H1 hK1 hP1 hD1 hS1 => ?_)
  have hcA : cA = gcZ G := Option.some.inj ((show s.vm.findClass ("[" ++ (FieldType.boolean).toString) = some cA from (hK1.2 4 _ rfl).2).symm.trans (show s.vm.findClass ("[" ++ (FieldType.boolean).toString) = some (gcZ G) from (F.2.2.2.2.2.2.2.2.1.2 1 _ rfl).2))
  subst hcA
  refine zNew (G := G) (h := h) (N := H.size) (by omega) I.2.1 hP1 hD1 (fun hq hz => ?_)
  subst hq
  have hlen := zro_3 I.2.2.1
  have I2 : zIn G s (h ++ [aZ n.toNat fun _ => 0]) H1 locs := by
    refine ⟨?_, ?_, zro_app I.2.2.1, hS1⟩
    · rw [zww_app _ hlen, ← I.2.1]
      exact hP1
    · rw [hz, I.2.1, List.length_append]
      simp only [List.length_cons, List.length_nil]
      omega
  have hst : zrV G (vR h.length) = .ref H.size := by rw [zrV_R hlen, I.2.1]
  rw [← hst]
  exact hgo _ _ _ _ he2 p e R s m args below meth c H1 locs (cells + 1) (slots + n.toNat) tc ts _ Q F I2 (by rw [hz]; omega) (by rw [List.length_append]; simp only [List.length_cons, List.length_nil]; omega) (by rw [zsz_app]; simp only [zsE]; omega) b1 b2 hl K
set_option maxRecDepth 20000 in
theorem zs_newarray_j (hmo : ∀ pc ls st h, go pc ls st h = some x → h.length ≤ x.2.length ∧ zsz h ≤ zsz x.2) (hd : decode (zb k) pc = .ok (.newarray .long, 2)) (hgo : ∀ pc ls st h, go pc ls st h = some x → zGoal G l k pc ls st h x) (he : (zpI none st fun n r => if 0 ≤ n ∧ n ≤ 100000 then go (pc + 2) ls (vR h.length :: r) (h ++ [aJ n.toNat fun _ => 0]) else none) = some x) : zGoal G l k pc ls st h x := by
  obtain ⟨n, r, rfl, he1⟩ := zpI_inv he
  obtain ⟨hn, he2⟩ := zif_inv he1
  have hm := hmo _ _ _ _ he2
  rw [List.length_append, zsz_app] at hm
  simp only [List.length_cons, List.length_nil, zsE] at hm
  intro p e R s m args below meth c H locs cells slots tc ts lsr Q F I hc e1 e2 b1 b2 hl K
  obtain ⟨n1, n2⟩ := z_nn hn.1 (by omega)
  refine va_newa (atype := .long) (ty := .long) (a0 := (n.toNat, .inr (.inl (fun _ => Int64.ofNat 0)))) F.1 F.2.1 (zFx_w F zwj_aj) rfl F.2.2.2.2.2.2.2.2.1 I.1 (zww_D G h) I.2.2.2 (fun q hq => Nat.le_trans F.2.2.2.2.2.2.2.2.2.2.2.2.2.2.2.1 hq) (fun cA => rfl) n1 n2 (by show n.toNat * 8 ≤ _; omega) (by omega) (by omega) hd (fun q cA H1 hK1 hP1 hD1 hS1 => ?_)
  have hcA : cA = gcJ G := Option.some.inj ((show s.vm.findClass ("[" ++ (FieldType.long).toString) = some cA from (hK1.2 4 _ rfl).2).symm.trans (show s.vm.findClass ("[" ++ (FieldType.long).toString) = some (gcJ G) from (F.2.2.2.2.2.2.2.2.1.2 2 _ rfl).2))
  subst hcA
  refine zNew (G := G) (h := h) (N := H.size) (by omega) I.2.1 hP1 hD1 (fun hq hz => ?_)
  subst hq
  have hlen := zro_3 I.2.2.1
  have I2 : zIn G s (h ++ [aJ n.toNat fun _ => 0]) H1 locs := by
    refine ⟨?_, ?_, zro_app I.2.2.1, hS1⟩
    · rw [zww_app _ hlen, ← I.2.1]
      exact hP1
    · rw [hz, I.2.1, List.length_append]
      simp only [List.length_cons, List.length_nil]
      omega
  have hst : zrV G (vR h.length) = .ref H.size := by rw [zrV_R hlen, I.2.1]
  rw [← hst]
  exact hgo _ _ _ _ he2 p e R s m args below meth c H1 locs (cells + 1) (slots + n.toNat) tc ts _ Q F I2 (by rw [hz]; omega) (by rw [List.length_append]; simp only [List.length_cons, List.length_nil]; omega) (by rw [zsz_app]; simp only [zsE]; omega) b1 b2 hl K
set_option maxRecDepth 20000 in
theorem zs_anewarray {idx : Nat} (hq : zlk zkl (zow k) idx = some 6) (hmo : ∀ pc ls st h, go pc ls st h = some x → h.length ≤ x.2.length ∧ zsz h ≤ zsz x.2) (hd : decode (zb k) pc = .ok (.anewarray idx, 3)) (hgo : ∀ pc ls st h, go pc ls st h = some x → zGoal G l k pc ls st h x) (he : (zpI none st fun n r => if 0 ≤ n ∧ n ≤ 100000 then go (pc + 3) ls (vR h.length :: r) (h ++ [aQ n.toNat fun _ => none]) else none) = some x) : zGoal G l k pc ls st h x := by
  obtain ⟨n, r, rfl, he1⟩ := zpI_inv he
  obtain ⟨hn, he2⟩ := zif_inv he1
  have hm := hmo _ _ _ _ he2
  rw [List.length_append, zsz_app] at hm
  simp only [List.length_cons, List.length_nil, zsE] at hm
  intro p e R s m args below meth c H locs cells slots tc ts lsr Q F I hc e1 e2 b1 b2 hl K
  obtain ⟨n1, n2⟩ := z_nn hn.1 (by omega)
  obtain ⟨hk, -⟩ := zkl_ok _ (zlk_mem hq)
  have hk : zW (.classLink (zcn (zow k)) idx "GarbleWords$State") := hk
  refine va_newq (C := "GarbleWords$State") F.1 F.2.1 F.2.2.2.1 (zFx_w F hk) (va_AO.of (zFx_w F zwj_ao)) F.2.2.2.2.2.2.2.2.1 I.1 (zww_D G h) I.2.2.2 (fun q hq => Nat.le_trans F.2.2.2.2.2.2.2.2.2.2.2.2.2.2.2.1 hq) n1 n2 (by omega) (by omega) (by omega) hd (fun q cA H1 hK1 hP1 hD1 hS1 => ?_)
  have hcA : cA = gcQ G := by
    obtain ⟨_, _, -, -, -, f1⟩ := (hK1.2 4 _ rfl).2
    obtain ⟨_, _, -, -, -, f2⟩ := (F.2.2.2.2.2.2.2.2.1.2 3 _ rfl).2
    exact Option.some.inj (f1.symm.trans f2)
  subst hcA
  refine zNew (G := G) (h := h) (N := H.size) (by omega) I.2.1 hP1 hD1 (fun hq hz => ?_)
  subst hq
  have hlen := zro_3 I.2.2.1
  have I2 : zIn G s (h ++ [aQ n.toNat fun _ => none]) H1 locs := by
    refine ⟨?_, ?_, zro_app I.2.2.1, hS1⟩
    · rw [zww_app _ hlen, ← I.2.1]
      exact hP1
    · rw [hz, I.2.1, List.length_append]
      simp only [List.length_cons, List.length_nil]
      omega
  have hst : zrV G (vR h.length) = .ref H.size := by rw [zrV_R hlen, I.2.1]
  rw [← hst]
  exact hgo _ _ _ _ he2 p e R s m args below meth c H1 locs (cells + 1) (slots + n.toNat) tc ts _ Q F I2 (by rw [hz]; omega) (by rw [List.length_append]; simp only [List.length_cons, List.length_nil]; omega) (by rw [zsz_app]; simp only [zsE]; omega) b1 b2 hl K
theorem zs_ret {r : Option zV} (he : some (r, h) = some x) (hst : st.map (zrV G) = (r.map (zrV G)).toList) (hr : zret k pc r) : zGoal G l k pc ls st h x := by
  cases he
  intro p e R s m args below meth c H locs cells slots tc ts lsr Q F I hc e1 e2 b1 b2 hl K
  have c1 : cells = tc := by simp only at e1; omega
  have c2 : slots = ts := by simp only at e2; omega
  subst c1; subst c2
  rw [hst]
  exact K pc lsr H locs I hr
theorem zcat_le {G : zG} : ∀ r : List zV, ((r.map (zrV G)).map fun v => v.category).sum ≤ 2 * r.length := by
  intro r
  induction r with
  | nil => exact Nat.le_refl 0
  | cons v t ih =>
    have h1 : (zrV G v).category ≤ 2 := by
      rcases lv_cat (zrV G v) with h | h <;> omega
    simp only [List.map_cons, List.sum_cons, List.length_cons]
    omega
set_option maxRecDepth 20000 in
theorem zs_objInit {idx : Nat} (hq : zlk zbl (zow k) idx = some 0) (hf : 1 ≤ zfr k) (hw : 20 ≤ zlo k) (hd : decode (zb k) pc = .ok (.invokespecial idx, 3)) (hgo : ∀ pc ls st h, go pc ls st h = some x → zGoal G l k pc ls st h x) (he : (zpR none st fun _ r => if r.length ≤ 4 then go (pc + 3) ls r h else none) = some x) : zGoal G l k pc ls st h x := by
  obtain ⟨a, r, rfl, he1⟩ := zpR_inv he
  obtain ⟨hr, he2⟩ := zif_inv he1
  intro p e R s m args below meth c H locs cells slots tc ts lsr Q F I hc e1 e2 b1 b2 hl K
  have hk : zW (.methodLink (zcn (zow k)) idx Lib.objectInit) := (zbl_ok _ (zlk_mem hq)).2
  have hca := zcat_le (G := G) r
  refine W.objInit (a := zad G a) F.1 F.2.1 F.2.2.2.1 (zFx_w F hk) (zFx_w F zwj_0) (zFx_w F zwj_1) rfl (by rw [F.2.2.1]; exact hl.1) rfl hd (by have := F.2.2.2.2.2.2.1; omega) (by have := F.2.2.2.2.2.2.2.1; show 2 * 0 + _ + 12 ≤ _; omega) ?_
  exact hgo _ _ _ _ he2 p e R s m args below meth c H locs cells slots tc ts _ Q F I hc e1 e2 b1 b2 hl K
set_option maxRecDepth 20000 in
theorem zs_max {idx : Nat} (hq : zlk zbl (zow k) idx = some 1) (hmo : ∀ pc ls st h, go pc ls st h = some x → h.length ≤ x.2.length ∧ zsz h ≤ zsz x.2) (hf : 1 ≤ zfr k) (hw : 21 ≤ zlo k) (hd : decode (zb k) pc = .ok (.invokestatic idx, 3)) (hgo : ∀ pc ls st h, go pc ls st h = some x → zGoal G l k pc ls st h x) (he : (zpI none st fun y r => zpI none r fun x0 r => if (zr x0 ∧ zr y) ∧ r.length ≤ 4 then go (pc + 3) ls (vI (if x0 < y then y else x0) :: r) h else none) = some x) : zGoal G l k pc ls st h x := by
  obtain ⟨y, r, rfl, he1⟩ := zpI_inv he
  obtain ⟨x0, r, rfl, he2⟩ := zpI_inv he1
  obtain ⟨⟨⟨hx, hy⟩, hr⟩, he3⟩ := zif_inv he2
  have hm2 := he3
  intro p e R s m args below meth c H locs cells slots tc ts lsr Q F I hc e1 e2 b1 b2 hl K
  have hk : zW (.methodLink (zcn (zow k)) idx Lib.Math.max.name) := (zbl_ok _ (zlk_mem hq)).2
  have hca := zcat_le (G := G) r
  refine va_mmax F.1 F.2.1 (by rw [F.2.2.1]; exact hl.1.symm) F.2.2.2.1 (zFx_w F hk) (zFx_w F zwj_max) (zFx_w F zwj_mi) (zFx_w F zwj_maxc) (by have := F.2.2.2.2.2.2.1; omega) (by have := F.2.2.2.2.2.2.2.1; omega) ?_ ?_ hd ?_
  · have := hmo _ _ _ _ he3; omega
  · have := hmo _ _ _ _ he3; omega
  · have e0 : (if Int32.ofInt x0 < Int32.ofInt y then Int32.ofInt y else Int32.ofInt x0) = Int32.ofInt (if x0 < y then y else x0) := by
      by_cases hq : x0 < y
      · rw [if_pos ((z_lt hx hy).mpr hq), if_pos hq]
      · rw [if_neg (fun z => hq ((z_lt hx hy).mp z)), if_neg hq]
    rw [e0]
    exact hgo _ _ _ _ he3 p e R s m args below meth c H locs cells slots tc ts _ Q F I hc e1 e2 b1 b2 hl K
set_option maxRecDepth 20000 in
theorem zs_min {idx : Nat} (hq : zlk zbl (zow k) idx = some 2) (hmo : ∀ pc ls st h, go pc ls st h = some x → h.length ≤ x.2.length ∧ zsz h ≤ zsz x.2) (hf : 1 ≤ zfr k) (hw : 21 ≤ zlo k) (hd : decode (zb k) pc = .ok (.invokestatic idx, 3)) (hgo : ∀ pc ls st h, go pc ls st h = some x → zGoal G l k pc ls st h x) (he : (zpI none st fun y r => zpI none r fun x0 r => if (zr x0 ∧ zr y) ∧ r.length ≤ 4 then go (pc + 3) ls (vI (if y < x0 then y else x0) :: r) h else none) = some x) : zGoal G l k pc ls st h x := by
  obtain ⟨y, r, rfl, he1⟩ := zpI_inv he
  obtain ⟨x0, r, rfl, he2⟩ := zpI_inv he1
  obtain ⟨⟨⟨hx, hy⟩, hr⟩, he3⟩ := zif_inv he2
  have hm2 := he3
  intro p e R s m args below meth c H locs cells slots tc ts lsr Q F I hc e1 e2 b1 b2 hl K
  have hk : zW (.methodLink (zcn (zow k)) idx Lib.Math.min.name) := (zbl_ok _ (zlk_mem hq)).2
  have hca := zcat_le (G := G) r
  refine va_mmin F.1 F.2.1 (by rw [F.2.2.1]; exact hl.1.symm) F.2.2.2.1 (zFx_w F hk) (zFx_w F zwj_min) (zFx_w F zwj_mi) (zFx_w F zwj_minc) (by have := F.2.2.2.2.2.2.1; omega) (by have := F.2.2.2.2.2.2.2.1; omega) ?_ ?_ hd ?_
  · have := hmo _ _ _ _ he3; omega
  · have := hmo _ _ _ _ he3; omega
  · have e0 : (if Int32.ofInt y < Int32.ofInt x0 then Int32.ofInt y else Int32.ofInt x0) = Int32.ofInt (if y < x0 then y else x0) := by
      by_cases hq : y < x0
      · rw [if_pos ((z_lt hy hx).mpr hq), if_pos hq]
      · rw [if_neg (fun z => hq ((z_lt hy hx).mp z)), if_neg hq]
    rw [e0]
    exact hgo _ _ _ _ he3 p e R s m args below meth c H locs cells slots tc ts _ Q F I hc e1 e2 b1 b2 hl K
set_option maxRecDepth 20000 in
theorem zs_arraycopy {idx : Nat} (hq : zlk zbl (zow k) idx = some 3) (hf : 1 ≤ zfr k) (hw : 26 ≤ zlo k) (hd : decode (zb k) pc = .ok (.invokestatic idx, 3)) (hgo : ∀ pc ls st h, go pc ls st h = some x → zGoal G l k pc ls st h x) (he : (zpI none st fun n r => zpI none r fun dp r => zpR none r fun a r => zpI none r fun sp r => zpR none r fun a0 r => zhA none h[a0]? fun n0 f0 => zhA none h[a]? fun n1 f1 =>
      if ((0 ≤ sp ∧ 0 ≤ dp ∧ 0 ≤ n) ∧ sp + n ≤ n0 ∧ dp + n ≤ n1 ∧ sp + n < 2147483648 ∧ dp + n < 2147483648) ∧ (3 ≤ a ∧ 3 ≤ a0) ∧ r.length ≤ 4 then (match f0, f1 with
        | Sum.inl f, Sum.inl g => go (pc + 3) ls r (h.set a (aI n1 (va_cpy f g sp.toNat dp.toNat n.toNat)))
        | Sum.inr (Sum.inr (Sum.inl f)), Sum.inr (Sum.inr (Sum.inl g)) => go (pc + 3) ls r (h.set a (aJ n1 (va_cpy f g sp.toNat dp.toNat n.toNat)))
        | _, _ => none) else none) = some x) : zGoal G l k pc ls st h x := by
  obtain ⟨n, r, rfl, he1⟩ := zpI_inv he
  obtain ⟨dp, r, rfl, he2⟩ := zpI_inv he1
  obtain ⟨a, r, rfl, he3⟩ := zpR_inv he2
  obtain ⟨sp, r, rfl, he4⟩ := zpI_inv he3
  obtain ⟨a0, r, rfl, he5⟩ := zpR_inv he4
  obtain ⟨n0, f0, ha0, he6⟩ := zhA_inv he5
  obtain ⟨n1, f1, ha, he7⟩ := zhA_inv he6
  obtain ⟨⟨⟨⟨hsp, hdp, hn⟩, c1, c2, c3, c4⟩, ⟨h3, h4⟩, hr⟩, he8⟩ := zif_inv he7
  intro p e R s m args below meth c H locs cells slots tc ts lsr Q F I hc e1 e2 b1 b2 hl K
  have hk : zW (.methodLink (zcn (zow k)) idx arraycopyName) := (zbl_ok _ (zlk_mem hq)).2
  have hca := zcat_le (G := G) r
  obtain ⟨q1, q2⟩ := z_nn hsp (by omega)
  obtain ⟨q3, q4⟩ := z_nn hdp (by omega)
  obtain ⟨q5, q6⟩ := z_nn hn (by omega)
  have hN : nativeFrameWords "java/lang/System" "arraycopy" 5 = 7 := by decide +kernel
  rw [List.map_cons, List.map_cons, List.map_cons, List.map_cons, List.map_cons, zrV_R h3, zrV_R h4]
  rcases f0 with f | f | f | f <;> rcases f1 with g | g | g | g <;> first | (cases he8; done) | skip
  · refine va_copyi F.1 F.2.1 (by rw [F.2.2.1]; exact hl.1.symm) F.2.2.2.1 (zFx_w F hk) (zFx_w F zwj_an) (zFx_w F zwj_as) (zFx_w F zwj_si) F.2.2.2.2.2.2.2.2.1 I.1 (zww_D G h) I.2.2.2 (a0 - 3) (a - 3) 0 0 (zww_at h4 ha0) (zww_at h3 ha) rfl rfl rfl q1 q3 q5 (by rw [q2, q6]; omega) (by rw [q4, q6]; omega) (fun _ _ => rfl) (by have := F.2.2.2.2.2.2.1; omega) (by have := F.2.2.2.2.2.2.2.1; rw [hN]; omega) hd (fun H1 locs1 hP1 hD1 hS1 => ?_)
    rw [q2, q4, q6] at hP1
    have hw : (Sum.inl (gcI G, n1, Sum.inl (va_cpy (fun j => Int32.ofInt (f j)) (fun j => Int32.ofInt (g j)) sp.toNat dp.toNat n.toNat)) : va_E) = zre G (aI n1 (va_cpy f g sp.toNat dp.toNat n.toNat)) := by
      show _ = (Sum.inl (gcI G, n1, Sum.inl (fun j => Int32.ofInt (va_cpy f g sp.toNat dp.toNat n.toNat j))) : va_E)
      congr 4
      funext j
      unfold va_cpy
      split <;> rfl
    exact zSize hc (zlow_set I ha h3 hw hP1) (fun hz => hgo _ _ _ _ he8 p e R s m args below meth c H1 locs1 cells slots tc ts _ Q F (zIn_set I ha h3 hw hP1 hS1 hz) (by rw [hz]; exact hc) (by rw [List.length_set]; exact e1) (by rw [(zsz_set _ _ _ _ ha rfl : zsz (h.set a (aI n1 (va_cpy f g sp.toNat dp.toNat n.toNat))) = zsz h)]; exact e2) b1 b2 hl K)
  · refine va_copyl F.1 F.2.1 (by rw [F.2.2.1]; exact hl.1.symm) F.2.2.2.1 (zFx_w F hk) (zFx_w F zwj_an) (zFx_w F zwj_as) (zFx_w F zwj_si) F.2.2.2.2.2.2.2.2.1 I.1 (zww_D G h) I.2.2.2 (a0 - 3) (a - 3) 2 2 (zww_at h4 ha0) (zww_at h3 ha) rfl rfl rfl q1 q3 q5 (by rw [q2, q6]; omega) (by rw [q4, q6]; omega) (fun _ _ => rfl) (by have := F.2.2.2.2.2.2.1; omega) (by have := F.2.2.2.2.2.2.2.1; rw [hN]; omega) hd (fun H1 locs1 hP1 hD1 hS1 => ?_)
    rw [q2, q4, q6] at hP1
    have hw : (Sum.inl (gcJ G, n1, Sum.inr (Sum.inl (va_cpy (fun j => Int64.ofNat (f j)) (fun j => Int64.ofNat (g j)) sp.toNat dp.toNat n.toNat))) : va_E) = zre G (aJ n1 (va_cpy f g sp.toNat dp.toNat n.toNat)) := by
      show _ = (Sum.inl (gcJ G, n1, Sum.inr (Sum.inl (fun j => Int64.ofNat (va_cpy f g sp.toNat dp.toNat n.toNat j)))) : va_E)
      congr 5
      funext j
      unfold va_cpy
      split <;> rfl
    exact zSize hc (zlow_set I ha h3 hw hP1) (fun hz => hgo _ _ _ _ he8 p e R s m args below meth c H1 locs1 cells slots tc ts _ Q F (zIn_set I ha h3 hw hP1 hS1 hz) (by rw [hz]; exact hc) (by rw [List.length_set]; exact e1) (by rw [(zsz_set _ _ _ _ ha rfl : zsz (h.set a (aJ n1 (va_cpy f g sp.toNat dp.toNat n.toNat))) = zsz h)]; exact e2) b1 b2 hl K)
end
