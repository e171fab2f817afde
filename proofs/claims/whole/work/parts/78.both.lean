/-! Class and model side by side -/
def yro (h : zH) (L : Nat) (xs : Nat → Int32) : Prop := h[0]? = some (aI 3 zlowf) ∧ h[1]? = some (aI 3 zhif) ∧ h[2]? = some (aI L fun j => (xs j).toInt)
set_option maxRecDepth 100000 in
theorem Ca_ro {h : zH} {L : Nat} {xs : Nat → Int32} (ro : yro h L xs) {m : Nat} {as : List zV} {Q : zQ} (c : Ca m as h Q) : Ca m as h (fun r h2 => yro h2 L xs ∧ Q r h2) := by
  obtain ⟨hl, n, r, h', e1, e2⟩ := c
  refine ⟨hl, n, r, h', e1, ?_, e2⟩
  let G : zG := ((fun _ => 0, fun _ _ => 0), (0, 0, 0, 0, L), (0, 0, 0, 0), xs)
  exact (zrun_grow (G := G) _ _ _ _ _ _ _ e1).2.2 ro
def INV (L : Nat) (xs : Nat → Int32) (h : zH) (A : yA) : Prop := yro h L xs ∧ ∃ F J V P, zKH h F J V P ∧ CR h F J V P A ∧ MR F V A
set_option maxRecDepth 100000 in
theorem CR_gAl {h : zH} {F : Nat → Nat → Int} {J : Nat → Nat → Nat} {V : Nat → Int} {P : Nat → Nat → Option Nat} {A : yA} (c : CR h F J V P A) : gAl A := by
  have c0 := c
  obtain ⟨q, N, G, o, ⟨r1, r2, r3⟩, b, ho, hn, hL, h67, h6, h7⟩ := c
  refine ⟨rS_gS r1, fun i T hT => ?_, fun s hs T hT => ?_⟩
  · have hi : i < (aL A).length := (List.getElem?_eq_some_iff.1 hT).1
    have hg := hL i hi
    rw [hT] at hg
    obtain ⟨j, F1, J1, V1, -, -, r⟩ := b.2.2.2.2 ((o + i) % 6) (by have := Nat.mod_lt (o + i) (show 0 < 6 by omega); omega) T hg
    exact rS_gS r
  · obtain ⟨j, F1, J1, V1, -, -, r⟩ := (CR_at c0 s hs).2 T hT
    exact rS_gS r
set_option maxRecDepth 100000 in
theorem yMq_mr {F F2 : Nat → Nat → Int} {V V2 : Nat → Int} {A : yA} (u : yMq F V F2 V2) (c : MR F V A) : MR F2 V2 A := MR_cg c ⟨u.1 _ (by omega), u.1 _ (by omega), u.1 _ (by omega), u.1 _ (by omega), u.1 _ (by omega)⟩ (u.2 _ (by omega)) (u.2 _ (by omega))
set_option maxRecDepth 100000 in
theorem cEq_cr {h h2 : zH} {F F2 : Nat → Nat → Int} {J : Nat → Nat → Nat} {V V2 : Nat → Int} {P : Nat → Nat → Option Nat} {A : yA} (u : cEq F V F2 V2) (fr : hfr h h2) (c : CR h F J V P A) : CR h2 F2 J V2 P A := by
  obtain ⟨q, N, G, o, ⟨r1, r2, r3⟩, -⟩ := id c
  exact CR_cg c fr.1 fr.2 ⟨u.1 _ (by omega), u.1 _ (by omega), u.1 _ (by omega), u.1 _ (by omega), u.1 _ (by omega), u.1 _ (by omega), u.1 _ (by omega), u.1 _ (by omega), u.1 _ (by omega), u.1 _ (by omega)⟩ ⟨rfl, rfl⟩ (fun t ht => u.2 t (by omega)) (by rw [u.2 10 (by omega)]; exact r3) ⟨rfl, rfl⟩
/-- both answer alike, and are alike then -/
def yBo (L : Nat) (xs : Nat → Int32) (h : zH) (m1 m2 : Nat) (as : List zV) : Prop := ∃ (A : yA) (r : Int), zr r ∧ Ca m1 (vR 3 :: as) h (fun r1 h2 => r1 = some (vI r) ∧ (yro h2 L xs ∧ h2[3]? = some (oO 9 [vR 4, vR 19, vR 21, vR 22, vR 24, vR 26, vR 31, vR 33]) ∧ ∃ fs, h2[34]? = some (oO 10 fs)) ∧ Ca m2 (vR 34 :: as) h2 (fun r2 h3 => r2 = some (vI r) ∧ INV L xs h3 A))
set_option maxRecDepth 100000 in
theorem yBo_of {L : Nat} {xs : Nat → Int32} {h : zH} {F : Nat → Nat → Int} {V : Nat → Int} {A A2 : yA} {m1 m2 : Nat} {as : List zV} {r : Int} (ro : yro h L xs) (mr : MR F V A) (hr : zr r) (p : Pu h F V m1 (vR 3 :: as) A2 r) (q : ∀ h2 F2 J2 V2 P2, zKH h2 F2 J2 V2 P2 → MR F2 V2 A → Mu h2 F2 J2 V2 P2 m2 (vR 34 :: as) A2 r) : yBo L xs h m1 m2 as := by
  refine ⟨A2, r, hr, ?_⟩
  have c1 := Ca_ro ro (p (fun r1 h2 => r1 = some (vI r) ∧ ∃ F2 J2 V2 P2, zKH h2 F2 J2 V2 P2 ∧ CR h2 F2 J2 V2 P2 A2 ∧ yMq F V F2 V2) (fun h2 F2 J2 V2 P2 k2 c2 u2 => ⟨rfl, F2, J2, V2, P2, k2, c2, u2⟩))
  refine c1.mono ?_
  rintro r1 h2 ⟨ro2, e1, F2, J2, V2, P2, k2, c2, u2⟩
  refine ⟨e1, ⟨ro2, kh_3 k2, _, kh_34 k2⟩, ?_⟩
  have c3 := Ca_ro ro2 (q h2 F2 J2 V2 P2 k2 (yMq_mr u2 mr) (fun r2 h3 => r2 = some (vI r) ∧ ∃ F3 V3, zKH h3 F3 J2 V3 P2 ∧ CR h3 F3 J2 V3 P2 A2 ∧ MR F3 V3 A2) (fun h3 F3 V3 k3 m3 ce fr => ⟨rfl, F3, V3, k3, cEq_cr ce fr c2, m3⟩))
  refine c3.mono ?_
  rintro r2 h3 ⟨ro3, e2, F3, V3, k3, c3, m3⟩
  exact ⟨e2, ro3, F3, J2, V3, P2, k3, c3, m3⟩
-- how large an answer can be
set_option maxRecDepth 100000 in
theorem zr_n {n : Nat} (h : n ≤ 1000000) : zr ((n : Nat) : Int) := by unfold zr; omega
set_option maxRecDepth 100000 in
theorem zr_if {c : Prop} [Decidable c] {a b : Int} (ha : zr a) (hb : zr b) : zr (if c then a else b) := by
  by_cases h : c
  · rw [if_pos h]; exact ha
  · rw [if_neg h]; exact hb
set_option maxRecDepth 100000 in
theorem ysum_bb {f : Nat → Int} {b : Int} (hb : 0 ≤ b) : ∀ n : Nat, (∀ i, i < n → 0 ≤ f i ∧ f i ≤ b) → 0 ≤ ysum f n ∧ ysum f n ≤ b * n := by
  intro n
  induction n with
  | zero => intro _; exact ⟨Int.le_refl _, by show (0 : Int) ≤ b * ((0 : Nat) : Int); omega⟩
  | succ n ih =>
    intro h
    have h1 := ih (fun i hi => h i (by omega))
    have h2 := h n (by omega)
    show 0 ≤ ysum f n + f n ∧ ysum f n + f n ≤ b * ((n + 1 : Nat) : Int)
    have e : b * ((n + 1 : Nat) : Int) = b * n + b := by rw [Int.natCast_add, Int.mul_add, Int.natCast_one, Int.mul_one]
    omega
set_option maxRecDepth 100000 in
theorem ycx_z {S : yS} (g : gS S) {ws : yF} (hm : yokF ws) (hl : ws.length ≤ 12) (wo mf : Int) (mp : Nat) : 0 ≤ ycx S ws wo mf mp ∧ ycx S ws wo mf mp ≤ 20000 := by
  have := ycx_r (f := fun i => if i = 0 then sco S else if i = 1 then swi S else sap S) (S := S) ⟨⟨rfl, rfl, rfl⟩, g.1⟩ hm wo mf mp
  omega
set_option maxRecDepth 100000 in
theorem z68 {S : yS} (g : gS S) (e : Nat) (he : e < (sbk S).length) (w : Int) : zr (q68 S e w) := by
  have gb := g.2.1.2 e he
  have g1 := g.1
  have g12 := g.2.2.2.1.1
  unfold q68
  split
  · exact zr_n (by omega)
  · split
    · exact zr_n (by omega)
    · split
      · have := ysum_bb (f := yll (sbk S) e) (b := 12) (by omega) 3 (fun i hi => by
          have := (ywd_ok gb.2.1 (i : Int)).2
          rw [ywd_nat] at this
          unfold yll
          omega)
        unfold zr; omega
      · split
        · have := ylf_r (sbk S) (bcd (sbk S) e) e (sbk S).length
          unfold zr; omega
        · split
          · have := ysum_bb (f := fun j => ypc (sco S) (swi S) ((bph (sbk S) e).getD j []).length) (b := 1287) (by omega) 3 (fun i hi => by
              have := (ywd_ok gb.2.1 (i : Int)).2
              rw [ywd_nat] at this
              exact ypc_r g.1.1 g.1.2.1 this)
            unfold zr; omega
          · split
            · have := yct_r (yts (sbk S) (sms S) (ssn S) e) (ssn S).length
              unfold zr; omega
            · unfold zr; omega
set_option maxRecDepth 100000 in
theorem z70 {A : yA} (g : gAl A) (hp : (aP A).length ≤ 80) (hl : (aL A).length ≤ 6) (w : Int) : zr (q70 A w) := by
  have g1 := g.1.1
  have g16 := g.1.2.1.1
  have gm := g.1.2.2.1
  have gs := g.1.2.2.2.1
  unfold q70
  refine zr_if ?_ (zr_if ?_ (zr_if ?_ (zr_if ?_ (zr_if ?_ (zr_if ?_ (zr_if ?_ (zr_if ?_ (zr_if ?_ (zr_if ?_ (zr_if ?_ (zr_if ?_ ?_)))))))))))
  · exact zr_n (by omega)
  · exact zr_n (by omega)
  · exact zr_n (by omega)
  · have := ysum_bb (f := fun i => tpa (sw (ssn (aS A)) i)) (b := 1287) (by omega) (ssn (aS A)).length (fun i hi => (gs.2 i hi).2.2.2.1)
    unfold zr; omega
  · have := ysum_bb (f := ypm (sco (aS A)) (swi (aS A)) (sms (aS A))) (b := 1287) (by omega) (sms (aS A)).length (fun i hi => by
      have := (ywd_ok gm.2 (i : Int)).2
      rw [ywd_nat] at this
      exact ypc_r g.1.1.1 g.1.1.2.1 this)
    unfold zr; omega
  · have := yld_r (sbk (aS A)) (sbk (aS A)).length (sbk (aS A)).length
    unfold zr; omega
  · unfold zr; omega
  · unfold zr; omega
  · unfold zr; omega
  · have := ysum_bb (f := ygl (ssn (aS A))) (b := 13) (by omega) (ssn (aS A)).length (fun i hi => by
      have := (gs.2 i hi).2.1.2
      have := yct_r (ygw (sw (ssn (aS A)) i)) (tre (sw (ssn (aS A)) i)).length
      unfold ygl
      omega)
    unfold zr; omega
  · exact zr_n (by omega)
  · exact zr_n (by omega)
  · unfold zr; omega
set_option maxRecDepth 100000 in
theorem z72 {S : yS} (g : gS S) (w : Nat) (hw : w < (ssn S).length) (x : Int) : zr (q72 S w x) := by
  have gt := g.2.2.2.1.2 w hw
  have g12 := g.2.2.1.1
  have g16 := g.2.1.1
  have r0 := yrA_r (sbk S) (sms S) (sw (ssn S) w)
  have r1 := yrA_01 (sbk S) (sms S) (sw (ssn S) w)
  have r2 : zr (yrA (sbk S) (sms S) (sw (ssn S) w)).2.1 ∧ zr (yrA (sbk S) (sms S) (sw (ssn S) w)).2.2.1 := by
    by_cases c : ycd (sw (ssn S) w)
    · rw [yrA_code g c]
      dsimp only
      have hme : zr (yme (yu0 (sbk S) (sw (ssn S) w)) (sbk S).length) := by
        have a := ylu_r (fun e => decide (yu0 (sbk S) (sw (ssn S) w) e = 0)) (sbk S).length
        have b := ylu_r (fun e => decide (yu0 (sbk S) (sw (ssn S) w) e = 1)) (sbk S).length
        unfold yme
        split
        · unfold zr; omega
        · split
          · unfold zr; omega
          · unfold zr; omega
      refine ⟨hme, ?_⟩
      split
      · have h6 := ylu_r (yul (yfl (sw (ssn S) w)) 0 (bcd (sbk S) (yme (yu0 (sbk S) (sw (ssn S) w)) (sbk S).length).toNat)) 4
        have h6 : -6 ≤ yLU (yfl (sw (ssn S) w)) (sbk S) 0 (yme (yu0 (sbk S) (sw (ssn S) w)) (sbk S).length).toNat ∧ yLU (yfl (sw (ssn S) w)) (sbk S) 0 (yme (yu0 (sbk S) (sw (ssn S) w)) (sbk S).length).toNat ≤ ((4 : Nat) : Int) := h6
        unfold zr; omega
      · unfold zr; omega
    · by_cases cq : ypq (sw (ssn S) w)
      · rw [(yrA_plain c).1 cq]
        exact ⟨by unfold zr; dsimp only; omega, by unfold zr; dsimp only; omega⟩
      · rw [(yrA_plain c).2 cq]
        exact ⟨by unfold zr; dsimp only; omega, by unfold zr; dsimp only; omega⟩
  have gt1 := gt.1
  have gt2 := gt.2.2.2.1
  unfold q72
  split
  · unfold zr; omega
  split
  · exact r2.1
  split
  · exact r2.2
  split
  · exact zr_n (by omega)
  split
  · unfold zr; omega
  split
  · unfold zr; omega
  · unfold zr; omega
set_option maxRecDepth 100000 in
theorem z76 {S : yS} (g : gS S) (w : Int) : zr (q76 S w) := by
  have gm := g.2.2.1
  have key : ∀ (sp f i : Nat) (st : Int × Int × Int), sp ≤ 3 → (zr st.1 ∧ zr st.2.1 ∧ zr st.2.2) → (zr (ybi S (sms S) sp f i st).1 ∧ zr (ybi S (sms S) sp f i st).2.1 ∧ zr (ybi S (sms S) sp f i st).2.2) := by
    intro sp f
    induction f with
    | zero => intro i st _ h; exact h
    | succ f ih =>
      intro i st hsp h
      unfold ybi
      split
      next hi =>
        refine ih (i + 1) _ hsp ?_
        split
        · have := ycx_z g gm.2 gm.1 (-6) i sp
          exact ⟨by dsimp only; exact zr_n (by omega), by dsimp only; exact zr_n (by omega), by unfold zr; dsimp only; omega⟩
        · exact h
      · exact h
  have key2 : ∀ (d sp : Nat) (st : Int × Int × Int), sp + d ≤ 4 → (zr st.1 ∧ zr st.2.1 ∧ zr st.2.2) → (zr (ybo S (sms S) d sp st).1 ∧ zr (ybo S (sms S) d sp st).2.1 ∧ zr (ybo S (sms S) d sp st).2.2) := by
    intro d
    induction d with
    | zero => intro sp st _ h; exact h
    | succ d ih =>
      intro sp st hsp h
      unfold ybo
      exact ih (sp + 1) _ (by omega) (key sp _ 0 st (by omega) h)
  have z := key2 3 1 (-6, -6, -6) (by omega) ⟨by unfold zr; dsimp only; omega, by unfold zr; dsimp only; omega, by unfold zr; dsimp only; omega⟩
  unfold q76
  split
  · exact z.1
  · split
    · exact z.2.1
    · exact z.2.2
set_option maxRecDepth 100000 in
theorem ygr_le (ap : Int) : ∀ d c l, ygr ap d c l ≤ d := by
  intro d
  induction d with
  | zero => intro c l; exact Nat.le_refl _
  | succ d ih =>
    intro c l
    unfold ygr
    split
    · have := ih (c + 1) (l ++ [c]); omega
    · have := ih (c + 1) l; omega
section
variable {L : Nat} {xs : Nat → Int32} {h : zH} {A : yA}
set_option maxRecDepth 100000 in
theorem b_set (iv : INV L xs h A) (s v : Int) (hs : zr s) (hv : zr v) : yBo L xs h 61 134 [vI s, vI v] := by
  obtain ⟨ro, F, J, V, P, k, c, m⟩ := iv
  have g := CR_gAl c
  by_cases x : yvs s v
  · obtain ⟨n, rfl⟩ : ∃ n : Nat, s = n := ⟨s.toNat, by unfold yvs at x; omega⟩
    refine yBo_of ro m ?_ (p_set k c ro.1 ro.2.1 n v x) (fun h2 F2 J2 V2 P2 k2 m2 => M_set k2 m2 g n v x)
    have := g.1.1
    unfold yget
    split
    · unfold zr; omega
    · split
      · unfold zr; omega
      · unfold zr; omega
  · exact yBo_of ro m (by unfold zr; omega) (p_set_bad k c ro.1 ro.2.1 s v hs hv x) (fun h2 F2 J2 V2 P2 k2 m2 => M_set_bad k2 m2 s v hs hv x)
set_option maxRecDepth 100000 in
theorem b_enter (iv : INV L xs h A) : yBo L xs h 62 135 [] := by
  obtain ⟨ro, F, J, V, P, k, c, m⟩ := iv
  have g := CR_gAl c
  by_cases hf : yft (aP A) 1 0 0 = -6
  · obtain ⟨ws, e1, e2, e3, e4⟩ := yft_text hf
    have ok : yokP (aP A) ws := ⟨hf, e1, e2, e3, e4⟩
    by_cases l3 : ws.length ≤ 3
    · by_cases l16 : (sbk (aS A)).length < 16
      · by_cases hn : yfree (sbk (aS A)) (sap (aS A)) 0 1296 = -6 ∨ yfind (sbk (aS A)) ws 0 (sbk (aS A)).length ≠ -6
        · exact yBo_of ro m (by unfold zr; omega) (p_enter_not k c ok l3 l16 hn) (fun h2 F2 J2 V2 P2 k2 m2 => M_enter_not k2 m2 g ok l3 l16 hn)
        · have h1 : yfree (sbk (aS A)) (sap (aS A)) 0 1296 ≠ -6 := fun z => hn (Or.inl z)
          have h2 : yfind (sbk (aS A)) ws 0 (sbk (aS A)).length = -6 := Classical.byContradiction fun z => hn (Or.inr z)
          have rf := yfd_r (fun c => yfar ((sbk (aS A)).map Prod.snd) (sap (aS A)) c) 1296 0
          have rf : yfree (sbk (aS A)) (sap (aS A)) 0 1296 = -6 ∨ (((0 : Nat) : Int) ≤ yfree (sbk (aS A)) (sap (aS A)) 0 1296 ∧ yfree (sbk (aS A)) (sap (aS A)) 0 1296 < ((0 : Nat) : Int) + ((1296 : Nat) : Int)) := rf
          obtain ⟨code, hc⟩ : ∃ n : Nat, yfree (sbk (aS A)) (sap (aS A)) 0 1296 = n := ⟨(yfree (sbk (aS A)) (sap (aS A)) 0 1296).toNat, by omega⟩
          have hcl : code < 1296 := by omega
          exact yBo_of ro m (zr_n (by omega)) (p_enter k c ok l3 l16 code hc h2) (fun h2' F2 J2 V2 P2 k2 m2 => M_enter k2 m2 g ok l3 l16 code hc hcl h2)
      · exact yBo_of ro m (by unfold zr; omega) ((p_enter_text k c).2.2 ok l3 (by omega)) (fun h2 F2 J2 V2 P2 k2 m2 => (M_enter_text k2 m2 g).2.2 ok l3 (by omega))
    · exact yBo_of ro m (by unfold zr; omega) ((p_enter_text k c).2.1 ok (by omega)) (fun h2 F2 J2 V2 P2 k2 m2 => (M_enter_text k2 m2 g).2.1 ok (by omega))
  · exact yBo_of ro m (by unfold zr; omega) ((p_enter_text (ws := []) k c).1 hf) (fun h2 F2 J2 V2 P2 k2 m2 => (M_enter_text (ws := []) k2 m2 g).1 hf)
set_option maxRecDepth 100000 in
theorem b_recode (iv : INV L xs h A) (e code : Int) (he : zr e) (hc : zr code) : yBo L xs h 63 137 [vI e, vI code] := by
  obtain ⟨ro, F, J, V, P, k, c, m⟩ := iv
  have g := CR_gAl c
  have pb := p_recode_bad k c e code he hc
  have mb := fun h2 F2 J2 V2 P2 (k2 : zKH h2 F2 J2 V2 P2) (m2 : MR F2 V2 A) => M_recode_bad k2 m2 g e code he hc
  by_cases x : 0 ≤ e ∧ e < (sbk (aS A)).length
  · by_cases y : 0 ≤ code ∧ code < 1296
    · by_cases z : ylf (sbk (aS A)) code e (sbk (aS A)).length = -6 ∨ sap (aS A) ≤ ylf (sbk (aS A)) code e (sbk (aS A)).length
      · obtain ⟨n, rfl⟩ : ∃ n : Nat, e = n := ⟨e.toNat, by omega⟩
        obtain ⟨d, rfl⟩ : ∃ n : Nat, code = n := ⟨code.toNat, by omega⟩
        have hb := (g.1.2.1.2 n (by omega)).1
        exact yBo_of ro m (zr_n (by omega)) (p_recode k c n d (by omega) (by omega) z) (fun h2 F2 J2 V2 P2 k2 m2 => M_recode k2 m2 g n d (by omega) (by omega) z)
      · exact yBo_of ro m (by unfold zr; omega) (pb.2.2 x y z) (fun h2 F2 J2 V2 P2 k2 m2 => (mb h2 F2 J2 V2 P2 k2 m2).2.2 x y z)
    · exact yBo_of ro m (by unfold zr; omega) (pb.2.1 x y) (fun h2 F2 J2 V2 P2 k2 m2 => (mb h2 F2 J2 V2 P2 k2 m2).2.1 x y)
  · exact yBo_of ro m (by unfold zr; omega) (pb.1 x) (fun h2 F2 J2 V2 P2 k2 m2 => (mb h2 F2 J2 V2 P2 k2 m2).1 x)
set_option maxRecDepth 100000 in
theorem b_drop (iv : INV L xs h A) (e : Int) (he : zr e) : yBo L xs h 64 138 [vI e] := by
  obtain ⟨ro, F, J, V, P, k, c, m⟩ := iv
  have g := CR_gAl c
  have g16 := g.1.2.1.1
  by_cases x : 0 ≤ e ∧ e < (sbk (aS A)).length
  · obtain ⟨n, rfl⟩ : ∃ n : Nat, e = n := ⟨e.toNat, by omega⟩
    exact yBo_of ro m (by unfold zr; omega) (p_drop k c n (by omega)) (fun h2 F2 J2 V2 P2 k2 m2 => M_drop k2 m2 g n (by omega))
  · exact yBo_of ro m (by unfold zr; omega) (p_drop_bad k c e he x) (fun h2 F2 J2 V2 P2 k2 m2 => M_drop_bad k2 m2 g e he x)
set_option maxRecDepth 100000 in
theorem b_send (iv : INV L xs h A) : yBo L xs h 65 139 [] := by
  obtain ⟨ro, F, J, V, P, k, c, m⟩ := iv
  have g := CR_gAl c
  by_cases hf : yft (aP A) 1 0 0 = -6
  · obtain ⟨ws, e1, e2, e3, e4⟩ := yft_text hf
    have ok : yokP (aP A) ws := ⟨hf, e1, e2, e3, e4⟩
    have z : 0 ≤ ycs (aS A) ws ∧ ycs (aS A) ws ≤ 20000 := ycx_z g.1 e2 e4 (-6) (-6) 0
    exact yBo_of ro m (by unfold zr; omega) (p_send k c ok) (fun h2 F2 J2 V2 P2 k2 m2 => M_send k2 m2 g ok)
  · exact yBo_of ro m (by unfold zr; omega) (p_send_bad k c hf) (fun h2 F2 J2 V2 P2 k2 m2 => M_send_bad k2 m2 hf)
set_option maxRecDepth 100000 in
theorem b_again (iv : INV L xs h A) : yBo L xs h 66 140 [] := by
  obtain ⟨ro, F, J, V, P, k, c, m⟩ := iv
  have g := CR_gAl c
  by_cases hf : sms (aS A) = []
  · exact yBo_of ro m (by unfold zr; omega) (p_again_bad k c hf) (fun h2 F2 J2 V2 P2 k2 m2 => M_again_bad k2 m2 hf)
  · have z : 0 ≤ ycs (aS A) (sms (aS A)) ∧ ycs (aS A) (sms (aS A)) ≤ 20000 := ycx_z g.1 g.1.2.2.1.2 g.1.2.2.1.1 (-6) (-6) 0
    exact yBo_of ro m (by unfold zr; omega) (p_again k c hf) (fun h2 F2 J2 V2 P2 k2 m2 => M_again k2 m2 g hf)
set_option maxRecDepth 100000 in
theorem b_garble (iv : INV L xs h A) (w p x : Int) (hw : zr w) (hp : zr p) (hx : zr x) : yBo L xs h 67 142 [vI w, vI p, vI x] := by
  obtain ⟨ro, F, J, V, P, k, c, m⟩ := iv
  have g := CR_gAl c
  have pb := p_garble_bad k c w p x hw hp hx
  have mb := fun h2 F2 J2 V2 P2 (k2 : zKH h2 F2 J2 V2 P2) (m2 : MR F2 V2 A) => M_garble_bad k2 m2 g w p x hw hp hx
  by_cases y : yhp (ssn (aS A)) w p
  · by_cases z : 0 ≤ x ∧ x < 26
    · have y' := y
      unfold yhp at y'
      obtain ⟨a, rfl⟩ : ∃ n : Nat, w = n := ⟨w.toNat, by omega⟩
      obtain ⟨b, rfl⟩ : ∃ n : Nat, p = n := ⟨p.toNat, by omega⟩
      obtain ⟨d, rfl⟩ : ∃ n : Nat, x = n := ⟨x.toNat, by omega⟩
      have e0 : ((a : Nat) : Int).toNat = a := by omega
      rw [e0] at y'
      have h26 := y_lt26 (g.1.2.2.2.1.2 a (by omega)).2.2.2.2.2 b
      exact yBo_of ro m (zr_n (by omega)) (p_garble k c a b d (by omega) (by omega) (by omega)) (fun h2 F2 J2 V2 P2 k2 m2 => M_garble k2 m2 g a b d (by omega) (by omega) (by omega))
    · exact yBo_of ro m (by unfold zr; omega) (pb.2 y z) (fun h2 F2 J2 V2 P2 k2 m2 => (mb h2 F2 J2 V2 P2 k2 m2).2 y z)
  · exact yBo_of ro m (by unfold zr; omega) (pb.1 y) (fun h2 F2 J2 V2 P2 k2 m2 => (mb h2 F2 J2 V2 P2 k2 m2).1 y)
set_option maxRecDepth 100000 in
theorem b_entry (iv : INV L xs h A) (e w : Int) (he : zr e) (hw : zr w) : yBo L xs h 68 146 [vI e, vI w] := by
  obtain ⟨ro, F, J, V, P, k, c, m⟩ := iv
  have g := CR_gAl c
  by_cases x : 0 ≤ e ∧ e < (sbk (aS A)).length
  · obtain ⟨n, rfl⟩ : ∃ n : Nat, e = n := ⟨e.toNat, by omega⟩
    exact yBo_of ro m (z68 g.1 n (by omega) w) (p_entry k c n w (by omega) hw) (fun h2 F2 J2 V2 P2 k2 m2 => M_entry k2 m2 g n w (by omega) hw)
  · exact yBo_of ro m (by unfold zr; omega) (p_entry_bad k c e w he x) (fun h2 F2 J2 V2 P2 k2 m2 => M_entry_bad k2 m2 g e w he x)
set_option maxRecDepth 100000 in
theorem b_phraseSign (iv : INV L xs h A) (e w : Int) (he : zr e) (hw : zr w) : yBo L xs h 69 147 [vI e, vI w] := by
  obtain ⟨ro, F, J, V, P, k, c, m⟩ := iv
  have g := CR_gAl c
  refine yBo_of ro m ?_ (p_phraseSign k c e w he hw) (fun h2 F2 J2 V2 P2 k2 m2 => M_phraseSign k2 m2 g e w he hw)
  split
  next x =>
    have gb := g.1.2.1.2 e.toNat (by omega)
    rw [ysg_text _ gb.2.1]
    split
    · have := ytx_rD gb.2.1 w.toNat
      unfold zr; omega
    · unfold zr; omega
  · unfold zr; omega
set_option maxRecDepth 100000 in
theorem b_count (iv : INV L xs h A) (w : Int) (hw : zr w) : yBo L xs h 70 150 [vI w] := by
  obtain ⟨ro, F, J, V, P, k, c, m⟩ := iv
  have g := CR_gAl c
  exact yBo_of ro m (z70 g m.2.2.2.2.1.2 m.2.1.2 w) (p_count k c w hw) (fun h2 F2 J2 V2 P2 k2 m2 => M_count k2 m2 g w hw)
set_option maxRecDepth 100000 in
theorem b_letter (iv : INV L xs h A) (w p : Int) (hw : zr w) (hp : zr p) : yBo L xs h 71 151 [vI w, vI p] := by
  obtain ⟨ro, F, J, V, P, k, c, m⟩ := iv
  have g := CR_gAl c
  refine yBo_of ro m ?_ (p_letter k c w p hw hp) (fun h2 F2 J2 V2 P2 k2 m2 => M_letter k2 m2 g w p hw hp)
  unfold q71
  split
  · unfold zr; omega
  next x =>
    split
    · unfold zr; omega
    · split
      · have x := Classical.not_not.1 x
        have := y_lt26 (g.1.2.2.2.1.2 w.toNat (by omega)).2.2.2.2.2 p.toNat
        exact zr_n (by omega)
      · unfold zr; omega
set_option maxRecDepth 100000 in
theorem b_received (iv : INV L xs h A) (w x : Int) (hw : zr w) (hx : zr x) : yBo L xs h 72 161 [vI w, vI x] := by
  obtain ⟨ro, F, J, V, P, k, c, m⟩ := iv
  have g := CR_gAl c
  by_cases y : 0 ≤ w ∧ w < (ssn (aS A)).length
  · obtain ⟨n, rfl⟩ : ∃ n : Nat, w = n := ⟨w.toNat, by omega⟩
    exact yBo_of ro m (z72 g.1 n (by omega) x) (p_received k c n x (by omega) hx) (fun h2 F2 J2 V2 P2 k2 m2 => M_received k2 m2 g n x (by omega) hx)
  · exact yBo_of ro m (by unfold zr; omega) (p_received_bad k c w x hw y) (fun h2 F2 J2 V2 P2 k2 m2 => M_received_bad k2 m2 g w x hw y)
set_option maxRecDepth 100000 in
theorem b_recSo (iv : INV L xs h A) (w : Int) (hw : zr w) : yBo L xs h 73 162 [vI w] := by
  obtain ⟨ro, F, J, V, P, k, c, m⟩ := iv
  have g := CR_gAl c
  refine yBo_of ro m ?_ (p_recSo k c w hw) (fun h2 F2 J2 V2 P2 k2 m2 => M_recSo k2 m2 g w hw)
  split
  · have := yct_r (yso (aS A) w) (ssn (aS A)).length
    have := g.1.2.2.2.1.1
    unfold zr; omega
  · unfold zr; omega
set_option maxRecDepth 100000 in
theorem b_costOf (iv : INV L xs h A) : yBo L xs h 74 163 [] := by
  obtain ⟨ro, F, J, V, P, k, c, m⟩ := iv
  have g := CR_gAl c
  by_cases hf : yft (aP A) 1 0 0 = -6
  · obtain ⟨ws, e1, e2, e3, e4⟩ := yft_text hf
    have ok : yokP (aP A) ws := ⟨hf, e1, e2, e3, e4⟩
    have z : 0 ≤ ycs (aS A) ws ∧ ycs (aS A) ws ≤ 20000 := ycx_z g.1 e2 e4 (-6) (-6) 0
    exact yBo_of ro m (by unfold zr; omega) (p_costOf k c ok) (fun h2 F2 J2 V2 P2 k2 m2 => M_costOf k2 m2 g ok)
  · exact yBo_of ro m (by unfold zr; omega) (p_costOf_bad k c hf) (fun h2 F2 J2 V2 P2 k2 m2 => M_costOf_bad k2 m2 hf)
set_option maxRecDepth 100000 in
theorem b_saves (iv : INV L xs h A) (e : Int) (he : zr e) : yBo L xs h 75 164 [vI e] := by
  obtain ⟨ro, F, J, V, P, k, c, m⟩ := iv
  have g := CR_gAl c
  have pb := p_saves_bad k c e he
  have mb := fun h2 F2 J2 V2 P2 (k2 : zKH h2 F2 J2 V2 P2) (m2 : MR F2 V2 A) => M_saves_bad k2 m2 g e he
  by_cases x : 0 ≤ e ∧ e < (sbk (aS A)).length
  · by_cases y : sms (aS A) = []
    · exact yBo_of ro m (by unfold zr; omega) (pb.2 x y) (fun h2 F2 J2 V2 P2 k2 m2 => (mb h2 F2 J2 V2 P2 k2 m2).2 x y)
    · obtain ⟨n, rfl⟩ : ∃ n : Nat, e = n := ⟨e.toNat, by omega⟩
      have z := ycx_z g.1 g.1.2.2.1.2 g.1.2.2.1.1 (-6) (-6) 0
      have z2 := ycx_z g.1 g.1.2.2.1.2 g.1.2.2.1.1 n (-6) 0
      exact yBo_of ro m (by unfold zr; omega) (p_saves k c n (by omega) y) (fun h2 F2 J2 V2 P2 k2 m2 => M_saves k2 m2 g n (by omega) y)
  · exact yBo_of ro m (by unfold zr; omega) (pb.1 x) (fun h2 F2 J2 V2 P2 k2 m2 => (mb h2 F2 J2 V2 P2 k2 m2).1 x)
set_option maxRecDepth 100000 in
theorem b_best (iv : INV L xs h A) (w : Int) (hw : zr w) : yBo L xs h 76 165 [vI w] := by
  obtain ⟨ro, F, J, V, P, k, c, m⟩ := iv
  have g := CR_gAl c
  refine yBo_of ro m ?_ (p_best k c w hw) (fun h2 F2 J2 V2 P2 k2 m2 => M_best k2 m2 g w hw)
  split
  · exact z76 g.1 w
  · unfold zr; omega
set_option maxRecDepth 100000 in
theorem b_left (iv : INV L xs h A) : yBo L xs h 77 166 [] := by
  obtain ⟨ro, F, J, V, P, k, c, m⟩ := iv
  have g := CR_gAl c
  have := ygr_le (sap (aS A)) 1296 0 ((sbk (aS A)).map Prod.snd)
  exact yBo_of ro m (zr_n (by omega)) (p_left k c) (fun h2 F2 J2 V2 P2 k2 m2 => M_left k2 m2 g)
set_option maxRecDepth 100000 in
theorem b_distance (iv : INV L xs h A) (x y : Int) (hx : zr x) (hy : zr y) : yBo L xs h 78 167 [vI x, vI y] := by
  obtain ⟨ro, F, J, V, P, k, c, m⟩ := iv
  refine yBo_of ro m ?_ (p_distance k c x y hx hy) (fun h2 F2 J2 V2 P2 k2 m2 => M_distance k2 m2 x y hx hy)
  split
  · have := dsC_r x y
    unfold zr; omega
  · unfold zr; omega
set_option maxRecDepth 100000 in
theorem b_put (iv : INV L xs h A) (y : Nat) (hy : y < 18446744073709551616) : yBo L xs h 79 168 [vJ y] := by
  obtain ⟨ro, F, J, V, P, k, c, m⟩ := iv
  have pp := p_put k c y hy
  have mm := fun h2 F2 J2 V2 P2 (k2 : zKH h2 F2 J2 V2 P2) (m2 : MR F2 V2 A) => M_put k2 m2 y hy
  by_cases x : ysi y 0 8 = 0
  · exact yBo_of ro m (by unfold zr; omega) (pp.1 x) (fun h2 F2 J2 V2 P2 k2 m2 => (mm h2 F2 J2 V2 P2 k2 m2).1 x)
  · by_cases z : 80 < (aP A).length + ysi y 0 8
    · exact yBo_of ro m (by unfold zr; omega) (pp.2.1 x z) (fun h2 F2 J2 V2 P2 k2 m2 => (mm h2 F2 J2 V2 P2 k2 m2).2.1 x z)
    · have sp := ysi_at 8 y 0
      have e0 : ((0 : Nat) : Int) = 0 := rfl
      rw [e0] at sp
      obtain ⟨n, hn⟩ : ∃ n : Nat, ysi y 0 8 = n := ⟨(ysi y 0 8).toNat, by
        rcases sp with sp | ⟨a, h1, h2, h3⟩
        · omega
        · omega⟩
      have el : (aP A ++ ypb y n).length = (aP A).length + n := by rw [List.length_append, ypb_len]
      exact yBo_of ro m (zr_n (by omega)) (pp.2.2 n hn (by omega) (by omega)) (fun h2 F2 J2 V2 P2 k2 m2 => (mm h2 F2 J2 V2 P2 k2 m2).2.2 n hn (by omega) (by omega))
set_option maxRecDepth 100000 in
theorem b_wipe (iv : INV L xs h A) : yBo L xs h 80 169 [] := by
  obtain ⟨ro, F, J, V, P, k, c, m⟩ := iv
  have l80 := m.2.2.2.2.1.2
  exact yBo_of ro m (zr_n (by omega)) (p_wipe k c) (fun h2 F2 J2 V2 P2 k2 m2 => M_wipe k2 m2)
set_option maxRecDepth 100000 in
theorem b_fault (iv : INV L xs h A) : yBo L xs h 81 170 [] := by
  obtain ⟨ro, F, J, V, P, k, c, m⟩ := iv
  have l80 := m.2.2.2.2.1.2
  have r := yft_r (aP A) 1 0 0 (by omega)
  exact yBo_of ro m (by unfold zr; omega) (p_fault k c) (fun h2 F2 J2 V2 P2 k2 m2 => M_fault k2 m2)
set_option maxRecDepth 100000 in
theorem b_undo (iv : INV L xs h A) : yBo L xs h 82 171 [] := by
  obtain ⟨ro, F, J, V, P, k, c, m⟩ := iv
  have g := CR_gAl c
  have l6 := m.2.1.2
  rcases List.eq_nil_or_concat (aL A) with e | ⟨L1, T, e⟩
  · exact yBo_of ro m (by unfold zr; omega) ((p_undo k c).1 e) (fun h2 F2 J2 V2 P2 k2 m2 => (M_undo k2 m2 g).1 e)
  · rw [List.concat_eq_append] at e
    have el : (aL A).length = L1.length + 1 := by rw [e]; simp
    exact yBo_of ro m (zr_n (by omega)) ((p_undo k c).2 L1 T e) (fun h2 F2 J2 V2 P2 k2 m2 => (M_undo k2 m2 g).2 L1 T e)
set_option maxRecDepth 100000 in
theorem b_save (iv : INV L xs h A) (s : Int) (hs : zr s) : yBo L xs h 83 172 [vI s] := by
  obtain ⟨ro, F, J, V, P, k, c, m⟩ := iv
  have g := CR_gAl c
  have g16 := g.1.2.1.1
  by_cases x : s < 0 ∨ 2 ≤ s
  · exact yBo_of ro m (by unfold zr; omega) (p_save_bad k c s hs x) (fun h2 F2 J2 V2 P2 k2 m2 => M_save_bad k2 m2 s hs x)
  · obtain ⟨n, rfl⟩ : ∃ n : Nat, s = n := ⟨s.toNat, by omega⟩
    exact yBo_of ro m (zr_n (by omega)) (p_save k c n (by omega)) (fun h2 F2 J2 V2 P2 k2 m2 => M_save k2 m2 g n (by omega))
set_option maxRecDepth 100000 in
theorem b_restore (iv : INV L xs h A) (s : Int) (hs : zr s) : yBo L xs h 84 173 [vI s] := by
  obtain ⟨ro, F, J, V, P, k, c, m⟩ := iv
  have g := CR_gAl c
  by_cases x : s < 0 ∨ 2 ≤ s
  · exact yBo_of ro m (by unfold zr; omega) (p_restore_bad k c s hs x) (fun h2 F2 J2 V2 P2 k2 m2 => M_restore_bad k2 m2 s hs x)
  · obtain ⟨n, rfl⟩ : ∃ n : Nat, s = n := ⟨s.toNat, by omega⟩
    cases hT : agt A n with
    | none => exact yBo_of ro m (by unfold zr; omega) (p_restore_none k c n (by omega) hT) (fun h2 F2 J2 V2 P2 k2 m2 => M_restore_none k2 m2 n (by omega) hT)
    | some T =>
      have gT := (g.2.2 n (by omega) T hT).2.1.1
      exact yBo_of ro m (zr_n (by omega)) (p_restore k c n (by omega) T hT) (fun h2 F2 J2 V2 P2 k2 m2 => M_restore k2 m2 g n (by omega) T hT)
end
