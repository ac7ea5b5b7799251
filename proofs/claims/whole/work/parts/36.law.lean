/-! ===== whole laws: clauses ===== -/
/-- a clause: its head, its sum (code, sense), its test (code, sense) if it has one -/
abbrev PC : Type := Int × PK × PS × Option PK × PS
abbrev PCR : Type := Int ⊕ (Int × Int × PC)
section PL
variable (T V : Int → Int)
def pWhen (test : Int → Int → PR) (h : Int) (c : PK) (s : PS) (p n : Int) : PCR :=
  if T p = 4 then (match test (p + 1) n with
    | .inl e => .inl e
    | .inr (p2, n2, k, t) => .inr (p2, n2, h, c, s, some k, t))
  else .inr (p, n, h, c, s, none, fun _ => some 1)
def pClause (sm test : Int → Int → PR) (p n : Int) : PCR :=
  if T p = 1 ∨ T p = 2 then (match sm (p + 1) n with
    | .inl e => .inl e
    | .inr (p2, n2, c, s) => pWhen T test (T p) c s p2 n2)
  else if T p = 3 then pWhen T test 3 [] (fun _ => some 1) (p + 1) n
  else .inl p
def pLawL (nt : Int) (cl : Int → Int → PCR) : Nat → Int → Int → List PC → Int ⊕ List PC
  | 0, p, _, _ => .inl p
  | f + 1, p, n, L =>
    if T p = 159 then (if L.length = 12 then .inl (p + 1) else match cl (p + 1) n with
      | .inl e => .inl e
      | .inr (p2, n2, c) => pLawL nt cl f p2 n2 (L ++ [c]))
    else if p < nt then .inl p else .inr L
def pLaw (nt : Int) : Int ⊕ List PC := match pClause T (pSum T V false 8) (pTest T V false 8) 0 0 with
  | .inl e => .inl e
  | .inr (p, n, c) => pLawL T nt (pClause T (pSum T V false 8) (pTest T V false 8)) 401 p n [c]
end PL
/-- what a clause makes of the number told so far -/
def tlC (w : Int → Int) (h top v : Int) (c : PC) : Int :=
  if c.1 = h ∧ c.2.2.2.2 w = some 1 then (match c.2.2.1 w with
    | none => v
    | some x => if x < 0 then 0 else if top < x then top else x) else v
def tl (w : Int → Int) (h top v : Int) (L : List PC) : Int := L.foldl (tlC w h top) v
/-! a clause goes forward -/
def pCFar (nt : Int) (f : Int → Int → PCR) : Prop := ∀ p n p2 n2 c, f p n = .inr (p2, n2, c) → p < p2 ∧ p2 ≤ nt
theorem pWhen_far {T : Int → Int} {nt : Int} {test : Int → Int → PR} (ht : pFar nt test) {h : Int} {c : PK} {s : PS} {p n p2 n2 : Int} {x : PC} (e : pWhen T test h c s p n = .inr (p2, n2, x)) (hp : p ≤ nt) : p ≤ p2 ∧ p2 ≤ nt := by
  unfold pWhen at e
  split at e
  · cases hr : test (p + 1) n with
    | inl y => rw [hr] at e; cases e
    | inr y =>
      obtain ⟨q, m, d2, t⟩ := y
      rw [hr] at e
      cases e
      have := ht _ _ _ _ _ _ hr
      omega
  · cases e; omega
theorem pClause_far {T : Int → Int} {nt : Int} (h : pOK T nt) {sm test : Int → Int → PR} (hs : pFar nt sm) (ht : pFar nt test) : pCFar nt (pClause T sm test) := by
  intro p n p2 n2 c e
  unfold pClause at e
  split at e
  · cases hr : sm (p + 1) n with
    | inl y => rw [hr] at e; cases e
    | inr y =>
      obtain ⟨q, m, d2, t⟩ := y
      rw [hr] at e
      have h1 := hs _ _ _ _ _ _ hr
      have := pWhen_far ht e (by omega)
      omega
  split at e
  · next h3 =>
    have h1 := h p (by omega)
    have := pWhen_far ht e (by omega)
    omega
  · cases e
set_option maxHeartbeats 2000000 in
theorem tl_exit {sh : gS} {g : gM} (hx : gFix sh) (hf : gFin g) {T V : Int → Int} {b : Int} {o : Bool} {w : Int → Int} (E : EvC T V b o w g) {D : Nat} (hD : 3 ≤ D) (p : Int) (hp : 0 ≤ p ∧ p ≤ 401) (h top df v br : Int) (hh : 0 ≤ h ∧ h ≤ 3) (htop : 0 ≤ top ∧ top ≤ 1000) (hv : -1000 ≤ v ∧ v ≤ 1000) (x6 x7 x8 x9 x10 : gV) (hp2 : ¬ b + p < g 177 23) : gWP f_Model_tells D 0 0 61 [(2, 177), (0, h), (0, top), (0, df), (1, v), (9, 0), x6, x7, x8, x9, x10] [] sh (evM g (b + p) br) (gR (some (0, v)) sh (evM g (b + p) br)) := by
  have hfe := fun x y => hf.ev x y
  have h1 := E.1
  have hrg := E.rg p hp.1
  have e23 : ∀ x y, evM g x y 177 23 = g 177 23 := fun x y => evM_k g x y (by decide) (by decide)
  show gWP f_Model_tells _ _ _ 61 [(2, 177), (0, h), (0, top), (0, df), (1, v), (9, 0), x6, x7, x8, x9, x10] [] sh (evM g (b + p) br) _
  refine gw_aload_n (gc k_Model_tells_0 36 rfl) rfl rfl ?_
  refine gw_getf 22 rfl (gc k_Model_tells_0 37 rfl) fl_Model_261 (gAt hx rfl rfl) ?_
  rw [evM_22]
  refine gw_aload_n (gc k_Model_tells_0 38 rfl) rfl rfl ?_
  refine gw_getf 23 rfl (gc k_Model_tells_0 39 rfl) fl_Model_258 (gAt hx rfl rfl) ?_
  rw [e23]
  refine gw_icmp_ge (tgt := 212) (gc k_Model_tells_1 0 rfl) rfl (by omega) (fun c69 => ?_) (fun c69 => ?_)
  · refine gw_lload (gc k_Model_tells_2 35 rfl) rfl ?_
    refine gw_l2i (gc k_Model_tells_2 36 rfl) ?_
    refine gw_ireturn (gc k_Model_tells_2 37 rfl) rfl ?_
    exact ⟨rfl, rfl, rfl⟩
  · exact absurd c69 (by omega)
set_option maxHeartbeats 4000000 in
theorem tl_sy {sh : gS} {g : gM} (hx : gFix sh) (hf : gFin g) {T V : Int → Int} {b : Int} {o : Bool} {w : Int → Int} (E : EvC T V b o w g) {D : Nat} (hD : 3 ≤ D) (p : Int) (hp : 0 ≤ p ∧ p ≤ 401) (h top df v br : Int) (hh : 0 ≤ h ∧ h ≤ 3) (htop : 0 ≤ top ∧ top ≤ 1000) (hv : -1000 ≤ v ∧ v ≤ 1000) (x6 x7 x8 x9 x10 : gV) (hT : T p = 1 ∨ T p = 2) (q : Int) (hq : 0 ≤ q ∧ q ≤ 401) (x B1 : Int) (hB1 : B1 = 0 ∨ B1 = 1) (hbx : -1000000000 ≤ x ∧ x ≤ 1000000000) {d : Nat} (hd : d + 1 ≤ D) (hS : gTri f_Model_sumOf d 0 0 [(2, 177), (0, 1)] sh (evM g (b + (p + 1)) 0) (gR (some (1, x)) sh (evM g (b + q) B1))) (hTq : T q = 4) (q2 y B2 : Int) (hy : y = 0 ∨ y = 1) (hB2 : B2 = 0 ∨ B2 = 1) {d2 : Nat} (hd2 : d2 + 1 ≤ D) (hS2 : gTri f_Model_testOf d2 0 0 [(2, 177), (0, 1)] sh (evM g (b + (q + 1)) 0) (gR (some (0, y)) sh (evM g (b + q2) B2))) (v2 : Int) (hv2 : (T p = h ∧ y = 1 ∧ B2 = 0 ∧ B1 = 0 ∧ ((x < 0 ∧ v2 = 0) ∨ (0 ≤ x ∧ top < x ∧ v2 = top) ∨ (0 ≤ x ∧ x ≤ top ∧ v2 = x))) ∨ ((¬ T p = h ∨ y = 0 ∨ B2 = 1 ∨ B1 = 1) ∧ v2 = v)) {Q : gQ} (k : ∀ y6 y7 y8 y9 y10 : gV, gWP f_Model_tells D 0 0 61 [(2, 177), (0, h), (0, top), (0, df), (1, v2), (9, 0), y6, y7, y8, y9, y10] [] sh (evM g (b + (q2 + 1)) B2) Q) : gWP f_Model_tells D 0 0 61 [(2, 177), (0, h), (0, top), (0, df), (1, v), (9, 0), x6, x7, x8, x9, x10] [] sh (evM g (b + p) br) Q := by
  have hfe := fun x y => hf.ev x y
  have h1 := E.1
  have hrg := E.rg p hp.1
  have e23 : ∀ x y, evM g x y 177 23 = g 177 23 := fun x y => evM_k g x y (by decide) (by decide)
  have hlt := E.lt p hp.1 (by omega)
  show gWP f_Model_tells _ _ _ 61 [(2, 177), (0, h), (0, top), (0, df), (1, v), (9, 0), x6, x7, x8, x9, x10] [] sh (evM g (b + p) br) _
  skip
  refine gw_aload_n (gc k_Model_tells_0 36 rfl) rfl rfl ?_
  refine gw_getf 22 rfl (gc k_Model_tells_0 37 rfl) fl_Model_261 (gAt hx rfl rfl) ?_
  rw [evM_22]
  refine gw_aload_n (gc k_Model_tells_0 38 rfl) rfl rfl ?_
  refine gw_getf 23 rfl (gc k_Model_tells_0 39 rfl) fl_Model_258 (gAt hx rfl rfl) ?_
  rw [e23]
  refine gw_icmp_ge (tgt := 212) (gc k_Model_tells_1 0 rfl) rfl (by omega) (fun c69 => ?_) (fun c69 => ?_)
  · exact absurd c69 (by omega)
  · refine gw_aload_n (gc k_Model_tells_1 1 rfl) rfl rfl ?_
    refine gw_aload_n (gc k_Model_tells_1 2 rfl) rfl rfl ?_
    refine gw_getf 22 rfl (gc k_Model_tells_1 3 rfl) fl_Model_261 (gAt hx rfl rfl) ?_
    rw [evM_22]
    refine gw_cV1 (gc k_Model_tells_1 4 rfl) y_Model_codeAt ln_Model_264 (c_codeAt hx hf E p _ _ (by omega)) rfl rfl (gAt hx rfl rfl) rfl (gble (by omega)) ?_
    refine gw_istore_6 (gc k_Model_tells_1 5 rfl) rfl rfl ?_
    refine gw_aload_n (gc k_Model_tells_1 6 rfl) rfl rfl ?_
    refine gw_iconst (gc k_Model_tells_1 7 rfl) ?_
    refine gw_putZK 24 rfl (gc k_Model_tells_1 8 rfl) fl_Model_271 (gAt hx rfl rfl) (by omega) (hfe _ _) rfl (fun _ => ?_)
    rw [evM_br]
    refine gw_aload_n (gc k_Model_tells_1 9 rfl) rfl rfl ?_
    refine gw_dup (gc k_Model_tells_1 10 rfl) rfl ?_
    refine gw_getf 22 rfl (gc k_Model_tells_1 11 rfl) fl_Model_261 (gAt hx rfl rfl) ?_
    rw [evM_22]
    refine gw_iconst (gc k_Model_tells_1 12 rfl) ?_
    refine gw_iadd (gc k_Model_tells_1 13 rfl) ?_
    refine gw_putIK 22 rfl (gc k_Model_tells_1 14 rfl) fl_Model_261 (gAt hx rfl rfl) (hfe _ _) rfl (fun _ => ?_)
    rw [evM_go, Int.add_assoc]
    refine gw_iload (gc k_Model_tells_1 15 rfl) rfl ?_
    refine gw_iconst (gc k_Model_tells_1 16 rfl) ?_
    refine gw_icmp_ne (tgt := 107) (gc k_Model_tells_1 17 rfl) rfl (by omega) (fun c100 => ?_) (fun c100 => ?_)
    · refine gw_aload_n (gc k_Model_tells_1 20 rfl) rfl rfl ?_
      refine gw_iconst (gc k_Model_tells_1 21 rfl) ?_
      refine gw_cV1 (gc k_Model_tells_1 22 rfl) y_Model_sumOf ln_Model_288 hS rfl rfl (gAt hx rfl rfl) rfl (gble (by omega)) ?_
      refine gw_lstore_7 (gc k_Model_tells_1 23 rfl) rfl rfl ?_
      refine gw_aload_n (gc k_Model_tells_1 24 rfl) rfl rfl ?_
      refine gw_getf 24 rfl (gc k_Model_tells_1 25 rfl) fl_Model_271 (gAt hx rfl rfl) ?_
      rw [evM_24]
      refine gw_istore_9 (gc k_Model_tells_1 26 rfl) rfl rfl ?_
      refine gw_aload_n (gc k_Model_tells_1 27 rfl) rfl rfl ?_
      refine gw_iconst (gc k_Model_tells_1 28 rfl) ?_
      refine gw_putZK 24 rfl (gc k_Model_tells_1 29 rfl) fl_Model_271 (gAt hx rfl rfl) (by omega) (hfe _ _) rfl (fun _ => ?_)
      rw [evM_br]
      refine gw_aload_n (gc k_Model_tells_1 30 rfl) rfl rfl ?_
      refine gw_iconst (gc k_Model_tells_1 31 rfl) ?_
      refine gw_cV1 (gc k_Model_tells_1 32 rfl) y_Model_passes0 ln_Model_285 (c_passY hx hf E q _ _ (by omega) (by omega) (by omega)) rfl rfl (gAt hx rfl rfl) rfl (gble (by omega)) ?_
      refine gw_if_eq (tgt := 141) (gc k_Model_tells_1 33 rfl) rfl (by omega) (fun c130 => ?_) (fun c130 => ?_)
      · exact absurd c130 (by decide)
      · refine gw_aload_n (gc k_Model_tells_1 34 rfl) rfl rfl ?_
        refine gw_iconst (gc k_Model_tells_1 35 rfl) ?_
        refine gw_cV1 (gc k_Model_tells_1 36 rfl) y_Model_testOf ln_Model_318 hS2 rfl rfl (gAt hx rfl rfl) rfl (gble (by omega)) ?_
        refine gw_if_eq (tgt := 145) (gc k_Model_tells_1 37 rfl) rfl (by omega) (fun c138 => ?_) (fun c138 => ?_)
        · refine gw_iconst (gc k_Model_tells_2 0 rfl) ?_
          refine gw_istore_10 (gc k_Model_tells_2 1 rfl) rfl rfl ?_
          refine gw_iload (gc k_Model_tells_2 2 rfl) rfl ?_
          refine gw_iload_n (gc k_Model_tells_2 3 rfl) rfl ?_
          refine gw_icmp_ne (tgt := 199) (gc k_Model_tells_2 4 rfl) rfl (by omega) (fun c151 => ?_) (fun c151 => ?_)
          · obtain rfl : v2 = v := by omega
            refine gw_aload_n (gc k_Model_tells_2 28 rfl) rfl rfl ?_
            refine gw_dup (gc k_Model_tells_2 29 rfl) rfl ?_
            refine gw_getf 22 rfl (gc k_Model_tells_2 30 rfl) fl_Model_261 (gAt hx rfl rfl) ?_
            rw [evM_22]
            refine gw_iconst (gc k_Model_tells_2 31 rfl) ?_
            refine gw_iadd (gc k_Model_tells_2 32 rfl) ?_
            refine gw_putIK 22 rfl (gc k_Model_tells_2 33 rfl) fl_Model_261 (gAt hx rfl rfl) (hfe _ _) rfl (fun _ => ?_)
            rw [evM_go, Int.add_assoc]
            refine gw_goto (tgt := 61) (gc k_Model_tells_2 34 rfl) rfl ?_
            exact k _ _ _ _ _
          · refine gw_iload (gc k_Model_tells_2 5 rfl) rfl ?_
            refine gw_if_eq (tgt := 199) (gc k_Model_tells_2 6 rfl) rfl (by omega) (fun c156 => ?_) (fun c156 => ?_)
            · obtain rfl : v2 = v := by omega
              refine gw_aload_n (gc k_Model_tells_2 28 rfl) rfl rfl ?_
              refine gw_dup (gc k_Model_tells_2 29 rfl) rfl ?_
              refine gw_getf 22 rfl (gc k_Model_tells_2 30 rfl) fl_Model_261 (gAt hx rfl rfl) ?_
              rw [evM_22]
              refine gw_iconst (gc k_Model_tells_2 31 rfl) ?_
              refine gw_iadd (gc k_Model_tells_2 32 rfl) ?_
              refine gw_putIK 22 rfl (gc k_Model_tells_2 33 rfl) fl_Model_261 (gAt hx rfl rfl) (hfe _ _) rfl (fun _ => ?_)
              rw [evM_go, Int.add_assoc]
              refine gw_goto (tgt := 61) (gc k_Model_tells_2 34 rfl) rfl ?_
              exact k _ _ _ _ _
            · refine gw_aload_n (gc k_Model_tells_2 7 rfl) rfl rfl ?_
              refine gw_getf 24 rfl (gc k_Model_tells_2 8 rfl) fl_Model_271 (gAt hx rfl rfl) ?_
              rw [evM_24]
              refine gw_if_ne (tgt := 199) (gc k_Model_tells_2 9 rfl) rfl (by omega) (fun c163 => ?_) (fun c163 => ?_)
              · obtain rfl : v2 = v := by omega
                refine gw_aload_n (gc k_Model_tells_2 28 rfl) rfl rfl ?_
                refine gw_dup (gc k_Model_tells_2 29 rfl) rfl ?_
                refine gw_getf 22 rfl (gc k_Model_tells_2 30 rfl) fl_Model_261 (gAt hx rfl rfl) ?_
                rw [evM_22]
                refine gw_iconst (gc k_Model_tells_2 31 rfl) ?_
                refine gw_iadd (gc k_Model_tells_2 32 rfl) ?_
                refine gw_putIK 22 rfl (gc k_Model_tells_2 33 rfl) fl_Model_261 (gAt hx rfl rfl) (hfe _ _) rfl (fun _ => ?_)
                rw [evM_go, Int.add_assoc]
                refine gw_goto (tgt := 61) (gc k_Model_tells_2 34 rfl) rfl ?_
                exact k _ _ _ _ _
              · refine gw_iload (gc k_Model_tells_2 10 rfl) rfl ?_
                refine gw_if_ne (tgt := 199) (gc k_Model_tells_2 11 rfl) rfl (by omega) (fun c168 => ?_) (fun c168 => ?_)
                · obtain rfl : v2 = v := by omega
                  refine gw_aload_n (gc k_Model_tells_2 28 rfl) rfl rfl ?_
                  refine gw_dup (gc k_Model_tells_2 29 rfl) rfl ?_
                  refine gw_getf 22 rfl (gc k_Model_tells_2 30 rfl) fl_Model_261 (gAt hx rfl rfl) ?_
                  rw [evM_22]
                  refine gw_iconst (gc k_Model_tells_2 31 rfl) ?_
                  refine gw_iadd (gc k_Model_tells_2 32 rfl) ?_
                  refine gw_putIK 22 rfl (gc k_Model_tells_2 33 rfl) fl_Model_261 (gAt hx rfl rfl) (hfe _ _) rfl (fun _ => ?_)
                  rw [evM_go, Int.add_assoc]
                  refine gw_goto (tgt := 61) (gc k_Model_tells_2 34 rfl) rfl ?_
                  exact k _ _ _ _ _
                · refine gw_lload (gc k_Model_tells_2 12 rfl) rfl ?_
                  refine gw_lconst0 (gc k_Model_tells_2 13 rfl) ?_
                  refine gw_lc_ge (tgt := 182) (gc k_Model_tells_2 14 rfl) (gc k_Model_tells_2 15 rfl) rfl (by omega) (fun c175 => ?_) (fun c175 => ?_)
                  · refine gw_lload (gc k_Model_tells_2 18 rfl) rfl ?_
                    refine gw_iload_n (gc k_Model_tells_2 19 rfl) rfl ?_
                    refine gw_i2l (gc k_Model_tells_2 20 rfl) (by omega) ?_
                    refine gw_lc_le (tgt := 195) (gc k_Model_tells_2 21 rfl) (gc k_Model_tells_2 22 rfl) rfl (by omega) (fun c187 => ?_) (fun c187 => ?_)
                    · obtain rfl : v2 = x := by omega
                      refine gw_lload (gc k_Model_tells_2 26 rfl) rfl ?_
                      refine gw_lstore_4 (gc k_Model_tells_2 27 rfl) rfl rfl ?_
                      refine gw_aload_n (gc k_Model_tells_2 28 rfl) rfl rfl ?_
                      refine gw_dup (gc k_Model_tells_2 29 rfl) rfl ?_
                      refine gw_getf 22 rfl (gc k_Model_tells_2 30 rfl) fl_Model_261 (gAt hx rfl rfl) ?_
                      rw [evM_22]
                      refine gw_iconst (gc k_Model_tells_2 31 rfl) ?_
                      refine gw_iadd (gc k_Model_tells_2 32 rfl) ?_
                      refine gw_putIK 22 rfl (gc k_Model_tells_2 33 rfl) fl_Model_261 (gAt hx rfl rfl) (hfe _ _) rfl (fun _ => ?_)
                      rw [evM_go, Int.add_assoc]
                      refine gw_goto (tgt := 61) (gc k_Model_tells_2 34 rfl) rfl ?_
                      exact k _ _ _ _ _
                    · have e2 : top = v2 := by omega
                      subst e2
                      refine gw_iload_n (gc k_Model_tells_2 23 rfl) rfl ?_
                      refine gw_i2l (gc k_Model_tells_2 24 rfl) (by omega) ?_
                      refine gw_goto (tgt := 197) (gc k_Model_tells_2 25 rfl) rfl ?_
                      refine gw_lstore_4 (gc k_Model_tells_2 27 rfl) rfl rfl ?_
                      refine gw_aload_n (gc k_Model_tells_2 28 rfl) rfl rfl ?_
                      refine gw_dup (gc k_Model_tells_2 29 rfl) rfl ?_
                      refine gw_getf 22 rfl (gc k_Model_tells_2 30 rfl) fl_Model_261 (gAt hx rfl rfl) ?_
                      rw [evM_22]
                      refine gw_iconst (gc k_Model_tells_2 31 rfl) ?_
                      refine gw_iadd (gc k_Model_tells_2 32 rfl) ?_
                      refine gw_putIK 22 rfl (gc k_Model_tells_2 33 rfl) fl_Model_261 (gAt hx rfl rfl) (hfe _ _) rfl (fun _ => ?_)
                      rw [evM_go, Int.add_assoc]
                      refine gw_goto (tgt := 61) (gc k_Model_tells_2 34 rfl) rfl ?_
                      exact k _ _ _ _ _
                  · obtain rfl : v2 = 0 := by omega
                    refine gw_lconst0 (gc k_Model_tells_2 16 rfl) ?_
                    refine gw_goto (tgt := 197) (gc k_Model_tells_2 17 rfl) rfl ?_
                    refine gw_lstore_4 (gc k_Model_tells_2 27 rfl) rfl rfl ?_
                    refine gw_aload_n (gc k_Model_tells_2 28 rfl) rfl rfl ?_
                    refine gw_dup (gc k_Model_tells_2 29 rfl) rfl ?_
                    refine gw_getf 22 rfl (gc k_Model_tells_2 30 rfl) fl_Model_261 (gAt hx rfl rfl) ?_
                    rw [evM_22]
                    refine gw_iconst (gc k_Model_tells_2 31 rfl) ?_
                    refine gw_iadd (gc k_Model_tells_2 32 rfl) ?_
                    refine gw_putIK 22 rfl (gc k_Model_tells_2 33 rfl) fl_Model_261 (gAt hx rfl rfl) (hfe _ _) rfl (fun _ => ?_)
                    rw [evM_go, Int.add_assoc]
                    refine gw_goto (tgt := 61) (gc k_Model_tells_2 34 rfl) rfl ?_
                    exact k _ _ _ _ _
        · refine gw_iconst (gc k_Model_tells_1 38 rfl) ?_
          refine gw_goto (tgt := 146) (gc k_Model_tells_1 39 rfl) rfl ?_
          refine gw_istore_10 (gc k_Model_tells_2 1 rfl) rfl rfl ?_
          refine gw_iload (gc k_Model_tells_2 2 rfl) rfl ?_
          refine gw_iload_n (gc k_Model_tells_2 3 rfl) rfl ?_
          refine gw_icmp_ne (tgt := 199) (gc k_Model_tells_2 4 rfl) rfl (by omega) (fun c151 => ?_) (fun c151 => ?_)
          · obtain rfl : v2 = v := by omega
            refine gw_aload_n (gc k_Model_tells_2 28 rfl) rfl rfl ?_
            refine gw_dup (gc k_Model_tells_2 29 rfl) rfl ?_
            refine gw_getf 22 rfl (gc k_Model_tells_2 30 rfl) fl_Model_261 (gAt hx rfl rfl) ?_
            rw [evM_22]
            refine gw_iconst (gc k_Model_tells_2 31 rfl) ?_
            refine gw_iadd (gc k_Model_tells_2 32 rfl) ?_
            refine gw_putIK 22 rfl (gc k_Model_tells_2 33 rfl) fl_Model_261 (gAt hx rfl rfl) (hfe _ _) rfl (fun _ => ?_)
            rw [evM_go, Int.add_assoc]
            refine gw_goto (tgt := 61) (gc k_Model_tells_2 34 rfl) rfl ?_
            exact k _ _ _ _ _
          · refine gw_iload (gc k_Model_tells_2 5 rfl) rfl ?_
            refine gw_if_eq (tgt := 199) (gc k_Model_tells_2 6 rfl) rfl (by omega) (fun c156 => ?_) (fun c156 => ?_)
            · obtain rfl : v2 = v := by omega
              refine gw_aload_n (gc k_Model_tells_2 28 rfl) rfl rfl ?_
              refine gw_dup (gc k_Model_tells_2 29 rfl) rfl ?_
              refine gw_getf 22 rfl (gc k_Model_tells_2 30 rfl) fl_Model_261 (gAt hx rfl rfl) ?_
              rw [evM_22]
              refine gw_iconst (gc k_Model_tells_2 31 rfl) ?_
              refine gw_iadd (gc k_Model_tells_2 32 rfl) ?_
              refine gw_putIK 22 rfl (gc k_Model_tells_2 33 rfl) fl_Model_261 (gAt hx rfl rfl) (hfe _ _) rfl (fun _ => ?_)
              rw [evM_go, Int.add_assoc]
              refine gw_goto (tgt := 61) (gc k_Model_tells_2 34 rfl) rfl ?_
              exact k _ _ _ _ _
            · refine gw_aload_n (gc k_Model_tells_2 7 rfl) rfl rfl ?_
              refine gw_getf 24 rfl (gc k_Model_tells_2 8 rfl) fl_Model_271 (gAt hx rfl rfl) ?_
              rw [evM_24]
              refine gw_if_ne (tgt := 199) (gc k_Model_tells_2 9 rfl) rfl (by omega) (fun c163 => ?_) (fun c163 => ?_)
              · obtain rfl : v2 = v := by omega
                refine gw_aload_n (gc k_Model_tells_2 28 rfl) rfl rfl ?_
                refine gw_dup (gc k_Model_tells_2 29 rfl) rfl ?_
                refine gw_getf 22 rfl (gc k_Model_tells_2 30 rfl) fl_Model_261 (gAt hx rfl rfl) ?_
                rw [evM_22]
                refine gw_iconst (gc k_Model_tells_2 31 rfl) ?_
                refine gw_iadd (gc k_Model_tells_2 32 rfl) ?_
                refine gw_putIK 22 rfl (gc k_Model_tells_2 33 rfl) fl_Model_261 (gAt hx rfl rfl) (hfe _ _) rfl (fun _ => ?_)
                rw [evM_go, Int.add_assoc]
                refine gw_goto (tgt := 61) (gc k_Model_tells_2 34 rfl) rfl ?_
                exact k _ _ _ _ _
              · refine gw_iload (gc k_Model_tells_2 10 rfl) rfl ?_
                refine gw_if_ne (tgt := 199) (gc k_Model_tells_2 11 rfl) rfl (by omega) (fun c168 => ?_) (fun c168 => ?_)
                · obtain rfl : v2 = v := by omega
                  refine gw_aload_n (gc k_Model_tells_2 28 rfl) rfl rfl ?_
                  refine gw_dup (gc k_Model_tells_2 29 rfl) rfl ?_
                  refine gw_getf 22 rfl (gc k_Model_tells_2 30 rfl) fl_Model_261 (gAt hx rfl rfl) ?_
                  rw [evM_22]
                  refine gw_iconst (gc k_Model_tells_2 31 rfl) ?_
                  refine gw_iadd (gc k_Model_tells_2 32 rfl) ?_
                  refine gw_putIK 22 rfl (gc k_Model_tells_2 33 rfl) fl_Model_261 (gAt hx rfl rfl) (hfe _ _) rfl (fun _ => ?_)
                  rw [evM_go, Int.add_assoc]
                  refine gw_goto (tgt := 61) (gc k_Model_tells_2 34 rfl) rfl ?_
                  exact k _ _ _ _ _
                · refine gw_lload (gc k_Model_tells_2 12 rfl) rfl ?_
                  refine gw_lconst0 (gc k_Model_tells_2 13 rfl) ?_
                  refine gw_lc_ge (tgt := 182) (gc k_Model_tells_2 14 rfl) (gc k_Model_tells_2 15 rfl) rfl (by omega) (fun c175 => ?_) (fun c175 => ?_)
                  · refine gw_lload (gc k_Model_tells_2 18 rfl) rfl ?_
                    refine gw_iload_n (gc k_Model_tells_2 19 rfl) rfl ?_
                    refine gw_i2l (gc k_Model_tells_2 20 rfl) (by omega) ?_
                    refine gw_lc_le (tgt := 195) (gc k_Model_tells_2 21 rfl) (gc k_Model_tells_2 22 rfl) rfl (by omega) (fun c187 => ?_) (fun c187 => ?_)
                    · obtain rfl : v2 = x := by omega
                      refine gw_lload (gc k_Model_tells_2 26 rfl) rfl ?_
                      refine gw_lstore_4 (gc k_Model_tells_2 27 rfl) rfl rfl ?_
                      refine gw_aload_n (gc k_Model_tells_2 28 rfl) rfl rfl ?_
                      refine gw_dup (gc k_Model_tells_2 29 rfl) rfl ?_
                      refine gw_getf 22 rfl (gc k_Model_tells_2 30 rfl) fl_Model_261 (gAt hx rfl rfl) ?_
                      rw [evM_22]
                      refine gw_iconst (gc k_Model_tells_2 31 rfl) ?_
                      refine gw_iadd (gc k_Model_tells_2 32 rfl) ?_
                      refine gw_putIK 22 rfl (gc k_Model_tells_2 33 rfl) fl_Model_261 (gAt hx rfl rfl) (hfe _ _) rfl (fun _ => ?_)
                      rw [evM_go, Int.add_assoc]
                      refine gw_goto (tgt := 61) (gc k_Model_tells_2 34 rfl) rfl ?_
                      exact k _ _ _ _ _
                    · have e2 : top = v2 := by omega
                      subst e2
                      refine gw_iload_n (gc k_Model_tells_2 23 rfl) rfl ?_
                      refine gw_i2l (gc k_Model_tells_2 24 rfl) (by omega) ?_
                      refine gw_goto (tgt := 197) (gc k_Model_tells_2 25 rfl) rfl ?_
                      refine gw_lstore_4 (gc k_Model_tells_2 27 rfl) rfl rfl ?_
                      refine gw_aload_n (gc k_Model_tells_2 28 rfl) rfl rfl ?_
                      refine gw_dup (gc k_Model_tells_2 29 rfl) rfl ?_
                      refine gw_getf 22 rfl (gc k_Model_tells_2 30 rfl) fl_Model_261 (gAt hx rfl rfl) ?_
                      rw [evM_22]
                      refine gw_iconst (gc k_Model_tells_2 31 rfl) ?_
                      refine gw_iadd (gc k_Model_tells_2 32 rfl) ?_
                      refine gw_putIK 22 rfl (gc k_Model_tells_2 33 rfl) fl_Model_261 (gAt hx rfl rfl) (hfe _ _) rfl (fun _ => ?_)
                      rw [evM_go, Int.add_assoc]
                      refine gw_goto (tgt := 61) (gc k_Model_tells_2 34 rfl) rfl ?_
                      exact k _ _ _ _ _
                  · obtain rfl : v2 = 0 := by omega
                    refine gw_lconst0 (gc k_Model_tells_2 16 rfl) ?_
                    refine gw_goto (tgt := 197) (gc k_Model_tells_2 17 rfl) rfl ?_
                    refine gw_lstore_4 (gc k_Model_tells_2 27 rfl) rfl rfl ?_
                    refine gw_aload_n (gc k_Model_tells_2 28 rfl) rfl rfl ?_
                    refine gw_dup (gc k_Model_tells_2 29 rfl) rfl ?_
                    refine gw_getf 22 rfl (gc k_Model_tells_2 30 rfl) fl_Model_261 (gAt hx rfl rfl) ?_
                    rw [evM_22]
                    refine gw_iconst (gc k_Model_tells_2 31 rfl) ?_
                    refine gw_iadd (gc k_Model_tells_2 32 rfl) ?_
                    refine gw_putIK 22 rfl (gc k_Model_tells_2 33 rfl) fl_Model_261 (gAt hx rfl rfl) (hfe _ _) rfl (fun _ => ?_)
                    rw [evM_go, Int.add_assoc]
                    refine gw_goto (tgt := 61) (gc k_Model_tells_2 34 rfl) rfl ?_
                    exact k _ _ _ _ _
    · exact absurd c100 (by omega)
set_option maxHeartbeats 4000000 in
theorem tl_sn {sh : gS} {g : gM} (hx : gFix sh) (hf : gFin g) {T V : Int → Int} {b : Int} {o : Bool} {w : Int → Int} (E : EvC T V b o w g) {D : Nat} (hD : 3 ≤ D) (p : Int) (hp : 0 ≤ p ∧ p ≤ 401) (h top df v br : Int) (hh : 0 ≤ h ∧ h ≤ 3) (htop : 0 ≤ top ∧ top ≤ 1000) (hv : -1000 ≤ v ∧ v ≤ 1000) (x6 x7 x8 x9 x10 : gV) (hT : T p = 1 ∨ T p = 2) (q : Int) (hq : 0 ≤ q ∧ q ≤ 401) (x B1 : Int) (hB1 : B1 = 0 ∨ B1 = 1) (hbx : -1000000000 ≤ x ∧ x ≤ 1000000000) {d : Nat} (hd : d + 1 ≤ D) (hS : gTri f_Model_sumOf d 0 0 [(2, 177), (0, 1)] sh (evM g (b + (p + 1)) 0) (gR (some (1, x)) sh (evM g (b + q) B1))) (hTq : ¬ T q = 4) (q2 y B2 : Int) (hq3 : q2 = q) (hy : y = 1) (hB2 : B2 = 0) (v2 : Int) (hv2 : (T p = h ∧ y = 1 ∧ B2 = 0 ∧ B1 = 0 ∧ ((x < 0 ∧ v2 = 0) ∨ (0 ≤ x ∧ top < x ∧ v2 = top) ∨ (0 ≤ x ∧ x ≤ top ∧ v2 = x))) ∨ ((¬ T p = h ∨ y = 0 ∨ B2 = 1 ∨ B1 = 1) ∧ v2 = v)) {Q : gQ} (k : ∀ y6 y7 y8 y9 y10 : gV, gWP f_Model_tells D 0 0 61 [(2, 177), (0, h), (0, top), (0, df), (1, v2), (9, 0), y6, y7, y8, y9, y10] [] sh (evM g (b + (q2 + 1)) B2) Q) : gWP f_Model_tells D 0 0 61 [(2, 177), (0, h), (0, top), (0, df), (1, v), (9, 0), x6, x7, x8, x9, x10] [] sh (evM g (b + p) br) Q := by
  have hfe := fun x y => hf.ev x y
  have h1 := E.1
  have hrg := E.rg p hp.1
  have e23 : ∀ x y, evM g x y 177 23 = g 177 23 := fun x y => evM_k g x y (by decide) (by decide)
  have hlt := E.lt p hp.1 (by omega)
  subst hq3; subst hB2
  show gWP f_Model_tells _ _ _ 61 [(2, 177), (0, h), (0, top), (0, df), (1, v), (9, 0), x6, x7, x8, x9, x10] [] sh (evM g (b + p) br) _
  skip
  refine gw_aload_n (gc k_Model_tells_0 36 rfl) rfl rfl ?_
  refine gw_getf 22 rfl (gc k_Model_tells_0 37 rfl) fl_Model_261 (gAt hx rfl rfl) ?_
  rw [evM_22]
  refine gw_aload_n (gc k_Model_tells_0 38 rfl) rfl rfl ?_
  refine gw_getf 23 rfl (gc k_Model_tells_0 39 rfl) fl_Model_258 (gAt hx rfl rfl) ?_
  rw [e23]
  refine gw_icmp_ge (tgt := 212) (gc k_Model_tells_1 0 rfl) rfl (by omega) (fun c69 => ?_) (fun c69 => ?_)
  · exact absurd c69 (by omega)
  · refine gw_aload_n (gc k_Model_tells_1 1 rfl) rfl rfl ?_
    refine gw_aload_n (gc k_Model_tells_1 2 rfl) rfl rfl ?_
    refine gw_getf 22 rfl (gc k_Model_tells_1 3 rfl) fl_Model_261 (gAt hx rfl rfl) ?_
    rw [evM_22]
    refine gw_cV1 (gc k_Model_tells_1 4 rfl) y_Model_codeAt ln_Model_264 (c_codeAt hx hf E p _ _ (by omega)) rfl rfl (gAt hx rfl rfl) rfl (gble (by omega)) ?_
    refine gw_istore_6 (gc k_Model_tells_1 5 rfl) rfl rfl ?_
    refine gw_aload_n (gc k_Model_tells_1 6 rfl) rfl rfl ?_
    refine gw_iconst (gc k_Model_tells_1 7 rfl) ?_
    refine gw_putZK 24 rfl (gc k_Model_tells_1 8 rfl) fl_Model_271 (gAt hx rfl rfl) (by omega) (hfe _ _) rfl (fun _ => ?_)
    rw [evM_br]
    refine gw_aload_n (gc k_Model_tells_1 9 rfl) rfl rfl ?_
    refine gw_dup (gc k_Model_tells_1 10 rfl) rfl ?_
    refine gw_getf 22 rfl (gc k_Model_tells_1 11 rfl) fl_Model_261 (gAt hx rfl rfl) ?_
    rw [evM_22]
    refine gw_iconst (gc k_Model_tells_1 12 rfl) ?_
    refine gw_iadd (gc k_Model_tells_1 13 rfl) ?_
    refine gw_putIK 22 rfl (gc k_Model_tells_1 14 rfl) fl_Model_261 (gAt hx rfl rfl) (hfe _ _) rfl (fun _ => ?_)
    rw [evM_go, Int.add_assoc]
    refine gw_iload (gc k_Model_tells_1 15 rfl) rfl ?_
    refine gw_iconst (gc k_Model_tells_1 16 rfl) ?_
    refine gw_icmp_ne (tgt := 107) (gc k_Model_tells_1 17 rfl) rfl (by omega) (fun c100 => ?_) (fun c100 => ?_)
    · refine gw_aload_n (gc k_Model_tells_1 20 rfl) rfl rfl ?_
      refine gw_iconst (gc k_Model_tells_1 21 rfl) ?_
      refine gw_cV1 (gc k_Model_tells_1 22 rfl) y_Model_sumOf ln_Model_288 hS rfl rfl (gAt hx rfl rfl) rfl (gble (by omega)) ?_
      refine gw_lstore_7 (gc k_Model_tells_1 23 rfl) rfl rfl ?_
      refine gw_aload_n (gc k_Model_tells_1 24 rfl) rfl rfl ?_
      refine gw_getf 24 rfl (gc k_Model_tells_1 25 rfl) fl_Model_271 (gAt hx rfl rfl) ?_
      rw [evM_24]
      refine gw_istore_9 (gc k_Model_tells_1 26 rfl) rfl rfl ?_
      refine gw_aload_n (gc k_Model_tells_1 27 rfl) rfl rfl ?_
      refine gw_iconst (gc k_Model_tells_1 28 rfl) ?_
      refine gw_putZK 24 rfl (gc k_Model_tells_1 29 rfl) fl_Model_271 (gAt hx rfl rfl) (by omega) (hfe _ _) rfl (fun _ => ?_)
      rw [evM_br]
      refine gw_aload_n (gc k_Model_tells_1 30 rfl) rfl rfl ?_
      refine gw_iconst (gc k_Model_tells_1 31 rfl) ?_
      refine gw_cV1 (gc k_Model_tells_1 32 rfl) y_Model_passes0 ln_Model_285 (c_passN hx hf E _ _ _ (by omega) (by omega) (by omega)) rfl rfl (gAt hx rfl rfl) rfl (gble (by omega)) ?_
      refine gw_if_eq (tgt := 141) (gc k_Model_tells_1 33 rfl) rfl (by omega) (fun c130 => ?_) (fun c130 => ?_)
      · skip
        refine gw_iconst (gc k_Model_tells_1 38 rfl) ?_
        refine gw_goto (tgt := 146) (gc k_Model_tells_1 39 rfl) rfl ?_
        refine gw_istore_10 (gc k_Model_tells_2 1 rfl) rfl rfl ?_
        refine gw_iload (gc k_Model_tells_2 2 rfl) rfl ?_
        refine gw_iload_n (gc k_Model_tells_2 3 rfl) rfl ?_
        refine gw_icmp_ne (tgt := 199) (gc k_Model_tells_2 4 rfl) rfl (by omega) (fun c151 => ?_) (fun c151 => ?_)
        · obtain rfl : v2 = v := by omega
          refine gw_aload_n (gc k_Model_tells_2 28 rfl) rfl rfl ?_
          refine gw_dup (gc k_Model_tells_2 29 rfl) rfl ?_
          refine gw_getf 22 rfl (gc k_Model_tells_2 30 rfl) fl_Model_261 (gAt hx rfl rfl) ?_
          rw [evM_22]
          refine gw_iconst (gc k_Model_tells_2 31 rfl) ?_
          refine gw_iadd (gc k_Model_tells_2 32 rfl) ?_
          refine gw_putIK 22 rfl (gc k_Model_tells_2 33 rfl) fl_Model_261 (gAt hx rfl rfl) (hfe _ _) rfl (fun _ => ?_)
          rw [evM_go, Int.add_assoc]
          refine gw_goto (tgt := 61) (gc k_Model_tells_2 34 rfl) rfl ?_
          exact k _ _ _ _ _
        · refine gw_iload (gc k_Model_tells_2 5 rfl) rfl ?_
          refine gw_if_eq (tgt := 199) (gc k_Model_tells_2 6 rfl) rfl (by omega) (fun c156 => ?_) (fun c156 => ?_)
          · obtain rfl : v2 = v := by omega
            refine gw_aload_n (gc k_Model_tells_2 28 rfl) rfl rfl ?_
            refine gw_dup (gc k_Model_tells_2 29 rfl) rfl ?_
            refine gw_getf 22 rfl (gc k_Model_tells_2 30 rfl) fl_Model_261 (gAt hx rfl rfl) ?_
            rw [evM_22]
            refine gw_iconst (gc k_Model_tells_2 31 rfl) ?_
            refine gw_iadd (gc k_Model_tells_2 32 rfl) ?_
            refine gw_putIK 22 rfl (gc k_Model_tells_2 33 rfl) fl_Model_261 (gAt hx rfl rfl) (hfe _ _) rfl (fun _ => ?_)
            rw [evM_go, Int.add_assoc]
            refine gw_goto (tgt := 61) (gc k_Model_tells_2 34 rfl) rfl ?_
            exact k _ _ _ _ _
          · refine gw_aload_n (gc k_Model_tells_2 7 rfl) rfl rfl ?_
            refine gw_getf 24 rfl (gc k_Model_tells_2 8 rfl) fl_Model_271 (gAt hx rfl rfl) ?_
            rw [evM_24]
            refine gw_if_ne (tgt := 199) (gc k_Model_tells_2 9 rfl) rfl (by omega) (fun c163 => ?_) (fun c163 => ?_)
            · obtain rfl : v2 = v := by omega
              refine gw_aload_n (gc k_Model_tells_2 28 rfl) rfl rfl ?_
              refine gw_dup (gc k_Model_tells_2 29 rfl) rfl ?_
              refine gw_getf 22 rfl (gc k_Model_tells_2 30 rfl) fl_Model_261 (gAt hx rfl rfl) ?_
              rw [evM_22]
              refine gw_iconst (gc k_Model_tells_2 31 rfl) ?_
              refine gw_iadd (gc k_Model_tells_2 32 rfl) ?_
              refine gw_putIK 22 rfl (gc k_Model_tells_2 33 rfl) fl_Model_261 (gAt hx rfl rfl) (hfe _ _) rfl (fun _ => ?_)
              rw [evM_go, Int.add_assoc]
              refine gw_goto (tgt := 61) (gc k_Model_tells_2 34 rfl) rfl ?_
              exact k _ _ _ _ _
            · refine gw_iload (gc k_Model_tells_2 10 rfl) rfl ?_
              refine gw_if_ne (tgt := 199) (gc k_Model_tells_2 11 rfl) rfl (by omega) (fun c168 => ?_) (fun c168 => ?_)
              · obtain rfl : v2 = v := by omega
                refine gw_aload_n (gc k_Model_tells_2 28 rfl) rfl rfl ?_
                refine gw_dup (gc k_Model_tells_2 29 rfl) rfl ?_
                refine gw_getf 22 rfl (gc k_Model_tells_2 30 rfl) fl_Model_261 (gAt hx rfl rfl) ?_
                rw [evM_22]
                refine gw_iconst (gc k_Model_tells_2 31 rfl) ?_
                refine gw_iadd (gc k_Model_tells_2 32 rfl) ?_
                refine gw_putIK 22 rfl (gc k_Model_tells_2 33 rfl) fl_Model_261 (gAt hx rfl rfl) (hfe _ _) rfl (fun _ => ?_)
                rw [evM_go, Int.add_assoc]
                refine gw_goto (tgt := 61) (gc k_Model_tells_2 34 rfl) rfl ?_
                exact k _ _ _ _ _
              · refine gw_lload (gc k_Model_tells_2 12 rfl) rfl ?_
                refine gw_lconst0 (gc k_Model_tells_2 13 rfl) ?_
                refine gw_lc_ge (tgt := 182) (gc k_Model_tells_2 14 rfl) (gc k_Model_tells_2 15 rfl) rfl (by omega) (fun c175 => ?_) (fun c175 => ?_)
                · refine gw_lload (gc k_Model_tells_2 18 rfl) rfl ?_
                  refine gw_iload_n (gc k_Model_tells_2 19 rfl) rfl ?_
                  refine gw_i2l (gc k_Model_tells_2 20 rfl) (by omega) ?_
                  refine gw_lc_le (tgt := 195) (gc k_Model_tells_2 21 rfl) (gc k_Model_tells_2 22 rfl) rfl (by omega) (fun c187 => ?_) (fun c187 => ?_)
                  · obtain rfl : v2 = x := by omega
                    refine gw_lload (gc k_Model_tells_2 26 rfl) rfl ?_
                    refine gw_lstore_4 (gc k_Model_tells_2 27 rfl) rfl rfl ?_
                    refine gw_aload_n (gc k_Model_tells_2 28 rfl) rfl rfl ?_
                    refine gw_dup (gc k_Model_tells_2 29 rfl) rfl ?_
                    refine gw_getf 22 rfl (gc k_Model_tells_2 30 rfl) fl_Model_261 (gAt hx rfl rfl) ?_
                    rw [evM_22]
                    refine gw_iconst (gc k_Model_tells_2 31 rfl) ?_
                    refine gw_iadd (gc k_Model_tells_2 32 rfl) ?_
                    refine gw_putIK 22 rfl (gc k_Model_tells_2 33 rfl) fl_Model_261 (gAt hx rfl rfl) (hfe _ _) rfl (fun _ => ?_)
                    rw [evM_go, Int.add_assoc]
                    refine gw_goto (tgt := 61) (gc k_Model_tells_2 34 rfl) rfl ?_
                    exact k _ _ _ _ _
                  · have e2 : top = v2 := by omega
                    subst e2
                    refine gw_iload_n (gc k_Model_tells_2 23 rfl) rfl ?_
                    refine gw_i2l (gc k_Model_tells_2 24 rfl) (by omega) ?_
                    refine gw_goto (tgt := 197) (gc k_Model_tells_2 25 rfl) rfl ?_
                    refine gw_lstore_4 (gc k_Model_tells_2 27 rfl) rfl rfl ?_
                    refine gw_aload_n (gc k_Model_tells_2 28 rfl) rfl rfl ?_
                    refine gw_dup (gc k_Model_tells_2 29 rfl) rfl ?_
                    refine gw_getf 22 rfl (gc k_Model_tells_2 30 rfl) fl_Model_261 (gAt hx rfl rfl) ?_
                    rw [evM_22]
                    refine gw_iconst (gc k_Model_tells_2 31 rfl) ?_
                    refine gw_iadd (gc k_Model_tells_2 32 rfl) ?_
                    refine gw_putIK 22 rfl (gc k_Model_tells_2 33 rfl) fl_Model_261 (gAt hx rfl rfl) (hfe _ _) rfl (fun _ => ?_)
                    rw [evM_go, Int.add_assoc]
                    refine gw_goto (tgt := 61) (gc k_Model_tells_2 34 rfl) rfl ?_
                    exact k _ _ _ _ _
                · obtain rfl : v2 = 0 := by omega
                  refine gw_lconst0 (gc k_Model_tells_2 16 rfl) ?_
                  refine gw_goto (tgt := 197) (gc k_Model_tells_2 17 rfl) rfl ?_
                  refine gw_lstore_4 (gc k_Model_tells_2 27 rfl) rfl rfl ?_
                  refine gw_aload_n (gc k_Model_tells_2 28 rfl) rfl rfl ?_
                  refine gw_dup (gc k_Model_tells_2 29 rfl) rfl ?_
                  refine gw_getf 22 rfl (gc k_Model_tells_2 30 rfl) fl_Model_261 (gAt hx rfl rfl) ?_
                  rw [evM_22]
                  refine gw_iconst (gc k_Model_tells_2 31 rfl) ?_
                  refine gw_iadd (gc k_Model_tells_2 32 rfl) ?_
                  refine gw_putIK 22 rfl (gc k_Model_tells_2 33 rfl) fl_Model_261 (gAt hx rfl rfl) (hfe _ _) rfl (fun _ => ?_)
                  rw [evM_go, Int.add_assoc]
                  refine gw_goto (tgt := 61) (gc k_Model_tells_2 34 rfl) rfl ?_
                  exact k _ _ _ _ _
      · exact absurd rfl c130
    · exact absurd c100 (by omega)
set_option maxHeartbeats 4000000 in
theorem tl_by {sh : gS} {g : gM} (hx : gFix sh) (hf : gFin g) {T V : Int → Int} {b : Int} {o : Bool} {w : Int → Int} (E : EvC T V b o w g) {D : Nat} (hD : 3 ≤ D) (p : Int) (hp : 0 ≤ p ∧ p ≤ 401) (h top df v br : Int) (hh : 0 ≤ h ∧ h ≤ 3) (htop : 0 ≤ top ∧ top ≤ 1000) (hv : -1000 ≤ v ∧ v ≤ 1000) (x6 x7 x8 x9 x10 : gV) (hT : T p = 3) (q : Int) (hq : q = p + 1) (hq2 : q ≤ 401) (x B1 : Int) (hx1 : x = 1) (hB1 : B1 = 0) (hTq : T q = 4) (q2 y B2 : Int) (hy : y = 0 ∨ y = 1) (hB2 : B2 = 0 ∨ B2 = 1) {d2 : Nat} (hd2 : d2 + 1 ≤ D) (hS2 : gTri f_Model_testOf d2 0 0 [(2, 177), (0, 1)] sh (evM g (b + (q + 1)) 0) (gR (some (0, y)) sh (evM g (b + q2) B2))) (v2 : Int) (hv2 : (T p = h ∧ y = 1 ∧ B2 = 0 ∧ B1 = 0 ∧ ((x < 0 ∧ v2 = 0) ∨ (0 ≤ x ∧ top < x ∧ v2 = top) ∨ (0 ≤ x ∧ x ≤ top ∧ v2 = x))) ∨ ((¬ T p = h ∨ y = 0 ∨ B2 = 1 ∨ B1 = 1) ∧ v2 = v)) {Q : gQ} (k : ∀ y6 y7 y8 y9 y10 : gV, gWP f_Model_tells D 0 0 61 [(2, 177), (0, h), (0, top), (0, df), (1, v2), (9, 0), y6, y7, y8, y9, y10] [] sh (evM g (b + (q2 + 1)) B2) Q) : gWP f_Model_tells D 0 0 61 [(2, 177), (0, h), (0, top), (0, df), (1, v), (9, 0), x6, x7, x8, x9, x10] [] sh (evM g (b + p) br) Q := by
  have hfe := fun x y => hf.ev x y
  have h1 := E.1
  have hrg := E.rg p hp.1
  have e23 : ∀ x y, evM g x y 177 23 = g 177 23 := fun x y => evM_k g x y (by decide) (by decide)
  have hlt := E.lt p hp.1 (by omega)
  subst hx1; subst hB1; subst hq
  show gWP f_Model_tells _ _ _ 61 [(2, 177), (0, h), (0, top), (0, df), (1, v), (9, 0), x6, x7, x8, x9, x10] [] sh (evM g (b + p) br) _
  skip
  refine gw_aload_n (gc k_Model_tells_0 36 rfl) rfl rfl ?_
  refine gw_getf 22 rfl (gc k_Model_tells_0 37 rfl) fl_Model_261 (gAt hx rfl rfl) ?_
  rw [evM_22]
  refine gw_aload_n (gc k_Model_tells_0 38 rfl) rfl rfl ?_
  refine gw_getf 23 rfl (gc k_Model_tells_0 39 rfl) fl_Model_258 (gAt hx rfl rfl) ?_
  rw [e23]
  refine gw_icmp_ge (tgt := 212) (gc k_Model_tells_1 0 rfl) rfl (by omega) (fun c69 => ?_) (fun c69 => ?_)
  · exact absurd c69 (by omega)
  · refine gw_aload_n (gc k_Model_tells_1 1 rfl) rfl rfl ?_
    refine gw_aload_n (gc k_Model_tells_1 2 rfl) rfl rfl ?_
    refine gw_getf 22 rfl (gc k_Model_tells_1 3 rfl) fl_Model_261 (gAt hx rfl rfl) ?_
    rw [evM_22]
    refine gw_cV1 (gc k_Model_tells_1 4 rfl) y_Model_codeAt ln_Model_264 (c_codeAt hx hf E p _ _ (by omega)) rfl rfl (gAt hx rfl rfl) rfl (gble (by omega)) ?_
    refine gw_istore_6 (gc k_Model_tells_1 5 rfl) rfl rfl ?_
    refine gw_aload_n (gc k_Model_tells_1 6 rfl) rfl rfl ?_
    refine gw_iconst (gc k_Model_tells_1 7 rfl) ?_
    refine gw_putZK 24 rfl (gc k_Model_tells_1 8 rfl) fl_Model_271 (gAt hx rfl rfl) (by omega) (hfe _ _) rfl (fun _ => ?_)
    rw [evM_br]
    refine gw_aload_n (gc k_Model_tells_1 9 rfl) rfl rfl ?_
    refine gw_dup (gc k_Model_tells_1 10 rfl) rfl ?_
    refine gw_getf 22 rfl (gc k_Model_tells_1 11 rfl) fl_Model_261 (gAt hx rfl rfl) ?_
    rw [evM_22]
    refine gw_iconst (gc k_Model_tells_1 12 rfl) ?_
    refine gw_iadd (gc k_Model_tells_1 13 rfl) ?_
    refine gw_putIK 22 rfl (gc k_Model_tells_1 14 rfl) fl_Model_261 (gAt hx rfl rfl) (hfe _ _) rfl (fun _ => ?_)
    rw [evM_go, Int.add_assoc]
    refine gw_iload (gc k_Model_tells_1 15 rfl) rfl ?_
    refine gw_iconst (gc k_Model_tells_1 16 rfl) ?_
    refine gw_icmp_ne (tgt := 107) (gc k_Model_tells_1 17 rfl) rfl (by omega) (fun c100 => ?_) (fun c100 => ?_)
    · exact absurd c100 (by omega)
    · skip
      refine gw_lconst1 (gc k_Model_tells_1 18 rfl) ?_
      refine gw_goto (tgt := 112) (gc k_Model_tells_1 19 rfl) rfl ?_
      refine gw_lstore_7 (gc k_Model_tells_1 23 rfl) rfl rfl ?_
      refine gw_aload_n (gc k_Model_tells_1 24 rfl) rfl rfl ?_
      refine gw_getf 24 rfl (gc k_Model_tells_1 25 rfl) fl_Model_271 (gAt hx rfl rfl) ?_
      rw [evM_24]
      refine gw_istore_9 (gc k_Model_tells_1 26 rfl) rfl rfl ?_
      refine gw_aload_n (gc k_Model_tells_1 27 rfl) rfl rfl ?_
      refine gw_iconst (gc k_Model_tells_1 28 rfl) ?_
      refine gw_putZK 24 rfl (gc k_Model_tells_1 29 rfl) fl_Model_271 (gAt hx rfl rfl) (by omega) (hfe _ _) rfl (fun _ => ?_)
      rw [evM_br]
      refine gw_aload_n (gc k_Model_tells_1 30 rfl) rfl rfl ?_
      refine gw_iconst (gc k_Model_tells_1 31 rfl) ?_
      refine gw_cV1 (gc k_Model_tells_1 32 rfl) y_Model_passes0 ln_Model_285 (c_passY hx hf E (p + 1) _ _ (by omega) (by omega) (by omega)) rfl rfl (gAt hx rfl rfl) rfl (gble (by omega)) ?_
      refine gw_if_eq (tgt := 141) (gc k_Model_tells_1 33 rfl) rfl (by omega) (fun c130 => ?_) (fun c130 => ?_)
      · exact absurd c130 (by decide)
      · refine gw_aload_n (gc k_Model_tells_1 34 rfl) rfl rfl ?_
        refine gw_iconst (gc k_Model_tells_1 35 rfl) ?_
        refine gw_cV1 (gc k_Model_tells_1 36 rfl) y_Model_testOf ln_Model_318 hS2 rfl rfl (gAt hx rfl rfl) rfl (gble (by omega)) ?_
        refine gw_if_eq (tgt := 145) (gc k_Model_tells_1 37 rfl) rfl (by omega) (fun c138 => ?_) (fun c138 => ?_)
        · refine gw_iconst (gc k_Model_tells_2 0 rfl) ?_
          refine gw_istore_10 (gc k_Model_tells_2 1 rfl) rfl rfl ?_
          refine gw_iload (gc k_Model_tells_2 2 rfl) rfl ?_
          refine gw_iload_n (gc k_Model_tells_2 3 rfl) rfl ?_
          refine gw_icmp_ne (tgt := 199) (gc k_Model_tells_2 4 rfl) rfl (by omega) (fun c151 => ?_) (fun c151 => ?_)
          · obtain rfl : v2 = v := by omega
            refine gw_aload_n (gc k_Model_tells_2 28 rfl) rfl rfl ?_
            refine gw_dup (gc k_Model_tells_2 29 rfl) rfl ?_
            refine gw_getf 22 rfl (gc k_Model_tells_2 30 rfl) fl_Model_261 (gAt hx rfl rfl) ?_
            rw [evM_22]
            refine gw_iconst (gc k_Model_tells_2 31 rfl) ?_
            refine gw_iadd (gc k_Model_tells_2 32 rfl) ?_
            refine gw_putIK 22 rfl (gc k_Model_tells_2 33 rfl) fl_Model_261 (gAt hx rfl rfl) (hfe _ _) rfl (fun _ => ?_)
            rw [evM_go, Int.add_assoc]
            refine gw_goto (tgt := 61) (gc k_Model_tells_2 34 rfl) rfl ?_
            exact k _ _ _ _ _
          · refine gw_iload (gc k_Model_tells_2 5 rfl) rfl ?_
            refine gw_if_eq (tgt := 199) (gc k_Model_tells_2 6 rfl) rfl (by omega) (fun c156 => ?_) (fun c156 => ?_)
            · obtain rfl : v2 = v := by omega
              refine gw_aload_n (gc k_Model_tells_2 28 rfl) rfl rfl ?_
              refine gw_dup (gc k_Model_tells_2 29 rfl) rfl ?_
              refine gw_getf 22 rfl (gc k_Model_tells_2 30 rfl) fl_Model_261 (gAt hx rfl rfl) ?_
              rw [evM_22]
              refine gw_iconst (gc k_Model_tells_2 31 rfl) ?_
              refine gw_iadd (gc k_Model_tells_2 32 rfl) ?_
              refine gw_putIK 22 rfl (gc k_Model_tells_2 33 rfl) fl_Model_261 (gAt hx rfl rfl) (hfe _ _) rfl (fun _ => ?_)
              rw [evM_go, Int.add_assoc]
              refine gw_goto (tgt := 61) (gc k_Model_tells_2 34 rfl) rfl ?_
              exact k _ _ _ _ _
            · refine gw_aload_n (gc k_Model_tells_2 7 rfl) rfl rfl ?_
              refine gw_getf 24 rfl (gc k_Model_tells_2 8 rfl) fl_Model_271 (gAt hx rfl rfl) ?_
              rw [evM_24]
              refine gw_if_ne (tgt := 199) (gc k_Model_tells_2 9 rfl) rfl (by omega) (fun c163 => ?_) (fun c163 => ?_)
              · obtain rfl : v2 = v := by omega
                refine gw_aload_n (gc k_Model_tells_2 28 rfl) rfl rfl ?_
                refine gw_dup (gc k_Model_tells_2 29 rfl) rfl ?_
                refine gw_getf 22 rfl (gc k_Model_tells_2 30 rfl) fl_Model_261 (gAt hx rfl rfl) ?_
                rw [evM_22]
                refine gw_iconst (gc k_Model_tells_2 31 rfl) ?_
                refine gw_iadd (gc k_Model_tells_2 32 rfl) ?_
                refine gw_putIK 22 rfl (gc k_Model_tells_2 33 rfl) fl_Model_261 (gAt hx rfl rfl) (hfe _ _) rfl (fun _ => ?_)
                rw [evM_go, Int.add_assoc]
                refine gw_goto (tgt := 61) (gc k_Model_tells_2 34 rfl) rfl ?_
                exact k _ _ _ _ _
              · refine gw_iload (gc k_Model_tells_2 10 rfl) rfl ?_
                refine gw_if_ne (tgt := 199) (gc k_Model_tells_2 11 rfl) rfl (by omega) (fun c168 => ?_) (fun c168 => ?_)
                · obtain rfl : v2 = v := by omega
                  refine gw_aload_n (gc k_Model_tells_2 28 rfl) rfl rfl ?_
                  refine gw_dup (gc k_Model_tells_2 29 rfl) rfl ?_
                  refine gw_getf 22 rfl (gc k_Model_tells_2 30 rfl) fl_Model_261 (gAt hx rfl rfl) ?_
                  rw [evM_22]
                  refine gw_iconst (gc k_Model_tells_2 31 rfl) ?_
                  refine gw_iadd (gc k_Model_tells_2 32 rfl) ?_
                  refine gw_putIK 22 rfl (gc k_Model_tells_2 33 rfl) fl_Model_261 (gAt hx rfl rfl) (hfe _ _) rfl (fun _ => ?_)
                  rw [evM_go, Int.add_assoc]
                  refine gw_goto (tgt := 61) (gc k_Model_tells_2 34 rfl) rfl ?_
                  exact k _ _ _ _ _
                · refine gw_lload (gc k_Model_tells_2 12 rfl) rfl ?_
                  refine gw_lconst0 (gc k_Model_tells_2 13 rfl) ?_
                  refine gw_lc_ge (tgt := 182) (gc k_Model_tells_2 14 rfl) (gc k_Model_tells_2 15 rfl) rfl (by omega) (fun c175 => ?_) (fun c175 => ?_)
                  · refine gw_lload (gc k_Model_tells_2 18 rfl) rfl ?_
                    refine gw_iload_n (gc k_Model_tells_2 19 rfl) rfl ?_
                    refine gw_i2l (gc k_Model_tells_2 20 rfl) (by omega) ?_
                    refine gw_lc_le (tgt := 195) (gc k_Model_tells_2 21 rfl) (gc k_Model_tells_2 22 rfl) rfl (by omega) (fun c187 => ?_) (fun c187 => ?_)
                    · obtain rfl : v2 = 1 := by omega
                      refine gw_lload (gc k_Model_tells_2 26 rfl) rfl ?_
                      refine gw_lstore_4 (gc k_Model_tells_2 27 rfl) rfl rfl ?_
                      refine gw_aload_n (gc k_Model_tells_2 28 rfl) rfl rfl ?_
                      refine gw_dup (gc k_Model_tells_2 29 rfl) rfl ?_
                      refine gw_getf 22 rfl (gc k_Model_tells_2 30 rfl) fl_Model_261 (gAt hx rfl rfl) ?_
                      rw [evM_22]
                      refine gw_iconst (gc k_Model_tells_2 31 rfl) ?_
                      refine gw_iadd (gc k_Model_tells_2 32 rfl) ?_
                      refine gw_putIK 22 rfl (gc k_Model_tells_2 33 rfl) fl_Model_261 (gAt hx rfl rfl) (hfe _ _) rfl (fun _ => ?_)
                      rw [evM_go, Int.add_assoc]
                      refine gw_goto (tgt := 61) (gc k_Model_tells_2 34 rfl) rfl ?_
                      exact k _ _ _ _ _
                    · have e2 : top = v2 := by omega
                      subst e2
                      refine gw_iload_n (gc k_Model_tells_2 23 rfl) rfl ?_
                      refine gw_i2l (gc k_Model_tells_2 24 rfl) (by omega) ?_
                      refine gw_goto (tgt := 197) (gc k_Model_tells_2 25 rfl) rfl ?_
                      refine gw_lstore_4 (gc k_Model_tells_2 27 rfl) rfl rfl ?_
                      refine gw_aload_n (gc k_Model_tells_2 28 rfl) rfl rfl ?_
                      refine gw_dup (gc k_Model_tells_2 29 rfl) rfl ?_
                      refine gw_getf 22 rfl (gc k_Model_tells_2 30 rfl) fl_Model_261 (gAt hx rfl rfl) ?_
                      rw [evM_22]
                      refine gw_iconst (gc k_Model_tells_2 31 rfl) ?_
                      refine gw_iadd (gc k_Model_tells_2 32 rfl) ?_
                      refine gw_putIK 22 rfl (gc k_Model_tells_2 33 rfl) fl_Model_261 (gAt hx rfl rfl) (hfe _ _) rfl (fun _ => ?_)
                      rw [evM_go, Int.add_assoc]
                      refine gw_goto (tgt := 61) (gc k_Model_tells_2 34 rfl) rfl ?_
                      exact k _ _ _ _ _
                  · obtain rfl : v2 = 0 := by omega
                    refine gw_lconst0 (gc k_Model_tells_2 16 rfl) ?_
                    refine gw_goto (tgt := 197) (gc k_Model_tells_2 17 rfl) rfl ?_
                    refine gw_lstore_4 (gc k_Model_tells_2 27 rfl) rfl rfl ?_
                    refine gw_aload_n (gc k_Model_tells_2 28 rfl) rfl rfl ?_
                    refine gw_dup (gc k_Model_tells_2 29 rfl) rfl ?_
                    refine gw_getf 22 rfl (gc k_Model_tells_2 30 rfl) fl_Model_261 (gAt hx rfl rfl) ?_
                    rw [evM_22]
                    refine gw_iconst (gc k_Model_tells_2 31 rfl) ?_
                    refine gw_iadd (gc k_Model_tells_2 32 rfl) ?_
                    refine gw_putIK 22 rfl (gc k_Model_tells_2 33 rfl) fl_Model_261 (gAt hx rfl rfl) (hfe _ _) rfl (fun _ => ?_)
                    rw [evM_go, Int.add_assoc]
                    refine gw_goto (tgt := 61) (gc k_Model_tells_2 34 rfl) rfl ?_
                    exact k _ _ _ _ _
        · refine gw_iconst (gc k_Model_tells_1 38 rfl) ?_
          refine gw_goto (tgt := 146) (gc k_Model_tells_1 39 rfl) rfl ?_
          refine gw_istore_10 (gc k_Model_tells_2 1 rfl) rfl rfl ?_
          refine gw_iload (gc k_Model_tells_2 2 rfl) rfl ?_
          refine gw_iload_n (gc k_Model_tells_2 3 rfl) rfl ?_
          refine gw_icmp_ne (tgt := 199) (gc k_Model_tells_2 4 rfl) rfl (by omega) (fun c151 => ?_) (fun c151 => ?_)
          · obtain rfl : v2 = v := by omega
            refine gw_aload_n (gc k_Model_tells_2 28 rfl) rfl rfl ?_
            refine gw_dup (gc k_Model_tells_2 29 rfl) rfl ?_
            refine gw_getf 22 rfl (gc k_Model_tells_2 30 rfl) fl_Model_261 (gAt hx rfl rfl) ?_
            rw [evM_22]
            refine gw_iconst (gc k_Model_tells_2 31 rfl) ?_
            refine gw_iadd (gc k_Model_tells_2 32 rfl) ?_
            refine gw_putIK 22 rfl (gc k_Model_tells_2 33 rfl) fl_Model_261 (gAt hx rfl rfl) (hfe _ _) rfl (fun _ => ?_)
            rw [evM_go, Int.add_assoc]
            refine gw_goto (tgt := 61) (gc k_Model_tells_2 34 rfl) rfl ?_
            exact k _ _ _ _ _
          · refine gw_iload (gc k_Model_tells_2 5 rfl) rfl ?_
            refine gw_if_eq (tgt := 199) (gc k_Model_tells_2 6 rfl) rfl (by omega) (fun c156 => ?_) (fun c156 => ?_)
            · obtain rfl : v2 = v := by omega
              refine gw_aload_n (gc k_Model_tells_2 28 rfl) rfl rfl ?_
              refine gw_dup (gc k_Model_tells_2 29 rfl) rfl ?_
              refine gw_getf 22 rfl (gc k_Model_tells_2 30 rfl) fl_Model_261 (gAt hx rfl rfl) ?_
              rw [evM_22]
              refine gw_iconst (gc k_Model_tells_2 31 rfl) ?_
              refine gw_iadd (gc k_Model_tells_2 32 rfl) ?_
              refine gw_putIK 22 rfl (gc k_Model_tells_2 33 rfl) fl_Model_261 (gAt hx rfl rfl) (hfe _ _) rfl (fun _ => ?_)
              rw [evM_go, Int.add_assoc]
              refine gw_goto (tgt := 61) (gc k_Model_tells_2 34 rfl) rfl ?_
              exact k _ _ _ _ _
            · refine gw_aload_n (gc k_Model_tells_2 7 rfl) rfl rfl ?_
              refine gw_getf 24 rfl (gc k_Model_tells_2 8 rfl) fl_Model_271 (gAt hx rfl rfl) ?_
              rw [evM_24]
              refine gw_if_ne (tgt := 199) (gc k_Model_tells_2 9 rfl) rfl (by omega) (fun c163 => ?_) (fun c163 => ?_)
              · obtain rfl : v2 = v := by omega
                refine gw_aload_n (gc k_Model_tells_2 28 rfl) rfl rfl ?_
                refine gw_dup (gc k_Model_tells_2 29 rfl) rfl ?_
                refine gw_getf 22 rfl (gc k_Model_tells_2 30 rfl) fl_Model_261 (gAt hx rfl rfl) ?_
                rw [evM_22]
                refine gw_iconst (gc k_Model_tells_2 31 rfl) ?_
                refine gw_iadd (gc k_Model_tells_2 32 rfl) ?_
                refine gw_putIK 22 rfl (gc k_Model_tells_2 33 rfl) fl_Model_261 (gAt hx rfl rfl) (hfe _ _) rfl (fun _ => ?_)
                rw [evM_go, Int.add_assoc]
                refine gw_goto (tgt := 61) (gc k_Model_tells_2 34 rfl) rfl ?_
                exact k _ _ _ _ _
              · refine gw_iload (gc k_Model_tells_2 10 rfl) rfl ?_
                refine gw_if_ne (tgt := 199) (gc k_Model_tells_2 11 rfl) rfl (by omega) (fun c168 => ?_) (fun c168 => ?_)
                · obtain rfl : v2 = v := by omega
                  refine gw_aload_n (gc k_Model_tells_2 28 rfl) rfl rfl ?_
                  refine gw_dup (gc k_Model_tells_2 29 rfl) rfl ?_
                  refine gw_getf 22 rfl (gc k_Model_tells_2 30 rfl) fl_Model_261 (gAt hx rfl rfl) ?_
                  rw [evM_22]
                  refine gw_iconst (gc k_Model_tells_2 31 rfl) ?_
                  refine gw_iadd (gc k_Model_tells_2 32 rfl) ?_
                  refine gw_putIK 22 rfl (gc k_Model_tells_2 33 rfl) fl_Model_261 (gAt hx rfl rfl) (hfe _ _) rfl (fun _ => ?_)
                  rw [evM_go, Int.add_assoc]
                  refine gw_goto (tgt := 61) (gc k_Model_tells_2 34 rfl) rfl ?_
                  exact k _ _ _ _ _
                · refine gw_lload (gc k_Model_tells_2 12 rfl) rfl ?_
                  refine gw_lconst0 (gc k_Model_tells_2 13 rfl) ?_
                  refine gw_lc_ge (tgt := 182) (gc k_Model_tells_2 14 rfl) (gc k_Model_tells_2 15 rfl) rfl (by omega) (fun c175 => ?_) (fun c175 => ?_)
                  · refine gw_lload (gc k_Model_tells_2 18 rfl) rfl ?_
                    refine gw_iload_n (gc k_Model_tells_2 19 rfl) rfl ?_
                    refine gw_i2l (gc k_Model_tells_2 20 rfl) (by omega) ?_
                    refine gw_lc_le (tgt := 195) (gc k_Model_tells_2 21 rfl) (gc k_Model_tells_2 22 rfl) rfl (by omega) (fun c187 => ?_) (fun c187 => ?_)
                    · obtain rfl : v2 = 1 := by omega
                      refine gw_lload (gc k_Model_tells_2 26 rfl) rfl ?_
                      refine gw_lstore_4 (gc k_Model_tells_2 27 rfl) rfl rfl ?_
                      refine gw_aload_n (gc k_Model_tells_2 28 rfl) rfl rfl ?_
                      refine gw_dup (gc k_Model_tells_2 29 rfl) rfl ?_
                      refine gw_getf 22 rfl (gc k_Model_tells_2 30 rfl) fl_Model_261 (gAt hx rfl rfl) ?_
                      rw [evM_22]
                      refine gw_iconst (gc k_Model_tells_2 31 rfl) ?_
                      refine gw_iadd (gc k_Model_tells_2 32 rfl) ?_
                      refine gw_putIK 22 rfl (gc k_Model_tells_2 33 rfl) fl_Model_261 (gAt hx rfl rfl) (hfe _ _) rfl (fun _ => ?_)
                      rw [evM_go, Int.add_assoc]
                      refine gw_goto (tgt := 61) (gc k_Model_tells_2 34 rfl) rfl ?_
                      exact k _ _ _ _ _
                    · have e2 : top = v2 := by omega
                      subst e2
                      refine gw_iload_n (gc k_Model_tells_2 23 rfl) rfl ?_
                      refine gw_i2l (gc k_Model_tells_2 24 rfl) (by omega) ?_
                      refine gw_goto (tgt := 197) (gc k_Model_tells_2 25 rfl) rfl ?_
                      refine gw_lstore_4 (gc k_Model_tells_2 27 rfl) rfl rfl ?_
                      refine gw_aload_n (gc k_Model_tells_2 28 rfl) rfl rfl ?_
                      refine gw_dup (gc k_Model_tells_2 29 rfl) rfl ?_
                      refine gw_getf 22 rfl (gc k_Model_tells_2 30 rfl) fl_Model_261 (gAt hx rfl rfl) ?_
                      rw [evM_22]
                      refine gw_iconst (gc k_Model_tells_2 31 rfl) ?_
                      refine gw_iadd (gc k_Model_tells_2 32 rfl) ?_
                      refine gw_putIK 22 rfl (gc k_Model_tells_2 33 rfl) fl_Model_261 (gAt hx rfl rfl) (hfe _ _) rfl (fun _ => ?_)
                      rw [evM_go, Int.add_assoc]
                      refine gw_goto (tgt := 61) (gc k_Model_tells_2 34 rfl) rfl ?_
                      exact k _ _ _ _ _
                  · obtain rfl : v2 = 0 := by omega
                    refine gw_lconst0 (gc k_Model_tells_2 16 rfl) ?_
                    refine gw_goto (tgt := 197) (gc k_Model_tells_2 17 rfl) rfl ?_
                    refine gw_lstore_4 (gc k_Model_tells_2 27 rfl) rfl rfl ?_
                    refine gw_aload_n (gc k_Model_tells_2 28 rfl) rfl rfl ?_
                    refine gw_dup (gc k_Model_tells_2 29 rfl) rfl ?_
                    refine gw_getf 22 rfl (gc k_Model_tells_2 30 rfl) fl_Model_261 (gAt hx rfl rfl) ?_
                    rw [evM_22]
                    refine gw_iconst (gc k_Model_tells_2 31 rfl) ?_
                    refine gw_iadd (gc k_Model_tells_2 32 rfl) ?_
                    refine gw_putIK 22 rfl (gc k_Model_tells_2 33 rfl) fl_Model_261 (gAt hx rfl rfl) (hfe _ _) rfl (fun _ => ?_)
                    rw [evM_go, Int.add_assoc]
                    refine gw_goto (tgt := 61) (gc k_Model_tells_2 34 rfl) rfl ?_
                    exact k _ _ _ _ _
set_option maxHeartbeats 4000000 in
theorem tl_bn {sh : gS} {g : gM} (hx : gFix sh) (hf : gFin g) {T V : Int → Int} {b : Int} {o : Bool} {w : Int → Int} (E : EvC T V b o w g) {D : Nat} (hD : 3 ≤ D) (p : Int) (hp : 0 ≤ p ∧ p ≤ 401) (h top df v br : Int) (hh : 0 ≤ h ∧ h ≤ 3) (htop : 0 ≤ top ∧ top ≤ 1000) (hv : -1000 ≤ v ∧ v ≤ 1000) (x6 x7 x8 x9 x10 : gV) (hT : T p = 3) (q : Int) (hq : q = p + 1) (hq2 : q ≤ 401) (x B1 : Int) (hx1 : x = 1) (hB1 : B1 = 0) (hTq : ¬ T q = 4) (q2 y B2 : Int) (hq3 : q2 = q) (hy : y = 1) (hB2 : B2 = 0) (v2 : Int) (hv2 : (T p = h ∧ y = 1 ∧ B2 = 0 ∧ B1 = 0 ∧ ((x < 0 ∧ v2 = 0) ∨ (0 ≤ x ∧ top < x ∧ v2 = top) ∨ (0 ≤ x ∧ x ≤ top ∧ v2 = x))) ∨ ((¬ T p = h ∨ y = 0 ∨ B2 = 1 ∨ B1 = 1) ∧ v2 = v)) {Q : gQ} (k : ∀ y6 y7 y8 y9 y10 : gV, gWP f_Model_tells D 0 0 61 [(2, 177), (0, h), (0, top), (0, df), (1, v2), (9, 0), y6, y7, y8, y9, y10] [] sh (evM g (b + (q2 + 1)) B2) Q) : gWP f_Model_tells D 0 0 61 [(2, 177), (0, h), (0, top), (0, df), (1, v), (9, 0), x6, x7, x8, x9, x10] [] sh (evM g (b + p) br) Q := by
  have hfe := fun x y => hf.ev x y
  have h1 := E.1
  have hrg := E.rg p hp.1
  have e23 : ∀ x y, evM g x y 177 23 = g 177 23 := fun x y => evM_k g x y (by decide) (by decide)
  have hlt := E.lt p hp.1 (by omega)
  subst hx1; subst hB1; subst hq
  subst hq3; subst hB2
  show gWP f_Model_tells _ _ _ 61 [(2, 177), (0, h), (0, top), (0, df), (1, v), (9, 0), x6, x7, x8, x9, x10] [] sh (evM g (b + p) br) _
  skip
  refine gw_aload_n (gc k_Model_tells_0 36 rfl) rfl rfl ?_
  refine gw_getf 22 rfl (gc k_Model_tells_0 37 rfl) fl_Model_261 (gAt hx rfl rfl) ?_
  rw [evM_22]
  refine gw_aload_n (gc k_Model_tells_0 38 rfl) rfl rfl ?_
  refine gw_getf 23 rfl (gc k_Model_tells_0 39 rfl) fl_Model_258 (gAt hx rfl rfl) ?_
  rw [e23]
  refine gw_icmp_ge (tgt := 212) (gc k_Model_tells_1 0 rfl) rfl (by omega) (fun c69 => ?_) (fun c69 => ?_)
  · exact absurd c69 (by omega)
  · refine gw_aload_n (gc k_Model_tells_1 1 rfl) rfl rfl ?_
    refine gw_aload_n (gc k_Model_tells_1 2 rfl) rfl rfl ?_
    refine gw_getf 22 rfl (gc k_Model_tells_1 3 rfl) fl_Model_261 (gAt hx rfl rfl) ?_
    rw [evM_22]
    refine gw_cV1 (gc k_Model_tells_1 4 rfl) y_Model_codeAt ln_Model_264 (c_codeAt hx hf E p _ _ (by omega)) rfl rfl (gAt hx rfl rfl) rfl (gble (by omega)) ?_
    refine gw_istore_6 (gc k_Model_tells_1 5 rfl) rfl rfl ?_
    refine gw_aload_n (gc k_Model_tells_1 6 rfl) rfl rfl ?_
    refine gw_iconst (gc k_Model_tells_1 7 rfl) ?_
    refine gw_putZK 24 rfl (gc k_Model_tells_1 8 rfl) fl_Model_271 (gAt hx rfl rfl) (by omega) (hfe _ _) rfl (fun _ => ?_)
    rw [evM_br]
    refine gw_aload_n (gc k_Model_tells_1 9 rfl) rfl rfl ?_
    refine gw_dup (gc k_Model_tells_1 10 rfl) rfl ?_
    refine gw_getf 22 rfl (gc k_Model_tells_1 11 rfl) fl_Model_261 (gAt hx rfl rfl) ?_
    rw [evM_22]
    refine gw_iconst (gc k_Model_tells_1 12 rfl) ?_
    refine gw_iadd (gc k_Model_tells_1 13 rfl) ?_
    refine gw_putIK 22 rfl (gc k_Model_tells_1 14 rfl) fl_Model_261 (gAt hx rfl rfl) (hfe _ _) rfl (fun _ => ?_)
    rw [evM_go, Int.add_assoc]
    refine gw_iload (gc k_Model_tells_1 15 rfl) rfl ?_
    refine gw_iconst (gc k_Model_tells_1 16 rfl) ?_
    refine gw_icmp_ne (tgt := 107) (gc k_Model_tells_1 17 rfl) rfl (by omega) (fun c100 => ?_) (fun c100 => ?_)
    · exact absurd c100 (by omega)
    · skip
      refine gw_lconst1 (gc k_Model_tells_1 18 rfl) ?_
      refine gw_goto (tgt := 112) (gc k_Model_tells_1 19 rfl) rfl ?_
      refine gw_lstore_7 (gc k_Model_tells_1 23 rfl) rfl rfl ?_
      refine gw_aload_n (gc k_Model_tells_1 24 rfl) rfl rfl ?_
      refine gw_getf 24 rfl (gc k_Model_tells_1 25 rfl) fl_Model_271 (gAt hx rfl rfl) ?_
      rw [evM_24]
      refine gw_istore_9 (gc k_Model_tells_1 26 rfl) rfl rfl ?_
      refine gw_aload_n (gc k_Model_tells_1 27 rfl) rfl rfl ?_
      refine gw_iconst (gc k_Model_tells_1 28 rfl) ?_
      refine gw_putZK 24 rfl (gc k_Model_tells_1 29 rfl) fl_Model_271 (gAt hx rfl rfl) (by omega) (hfe _ _) rfl (fun _ => ?_)
      rw [evM_br]
      refine gw_aload_n (gc k_Model_tells_1 30 rfl) rfl rfl ?_
      refine gw_iconst (gc k_Model_tells_1 31 rfl) ?_
      refine gw_cV1 (gc k_Model_tells_1 32 rfl) y_Model_passes0 ln_Model_285 (c_passN hx hf E (p + 1) _ _ (by omega) (by omega) (by omega)) rfl rfl (gAt hx rfl rfl) rfl (gble (by omega)) ?_
      refine gw_if_eq (tgt := 141) (gc k_Model_tells_1 33 rfl) rfl (by omega) (fun c130 => ?_) (fun c130 => ?_)
      · skip
        refine gw_iconst (gc k_Model_tells_1 38 rfl) ?_
        refine gw_goto (tgt := 146) (gc k_Model_tells_1 39 rfl) rfl ?_
        refine gw_istore_10 (gc k_Model_tells_2 1 rfl) rfl rfl ?_
        refine gw_iload (gc k_Model_tells_2 2 rfl) rfl ?_
        refine gw_iload_n (gc k_Model_tells_2 3 rfl) rfl ?_
        refine gw_icmp_ne (tgt := 199) (gc k_Model_tells_2 4 rfl) rfl (by omega) (fun c151 => ?_) (fun c151 => ?_)
        · obtain rfl : v2 = v := by omega
          refine gw_aload_n (gc k_Model_tells_2 28 rfl) rfl rfl ?_
          refine gw_dup (gc k_Model_tells_2 29 rfl) rfl ?_
          refine gw_getf 22 rfl (gc k_Model_tells_2 30 rfl) fl_Model_261 (gAt hx rfl rfl) ?_
          rw [evM_22]
          refine gw_iconst (gc k_Model_tells_2 31 rfl) ?_
          refine gw_iadd (gc k_Model_tells_2 32 rfl) ?_
          refine gw_putIK 22 rfl (gc k_Model_tells_2 33 rfl) fl_Model_261 (gAt hx rfl rfl) (hfe _ _) rfl (fun _ => ?_)
          rw [evM_go, Int.add_assoc]
          refine gw_goto (tgt := 61) (gc k_Model_tells_2 34 rfl) rfl ?_
          exact k _ _ _ _ _
        · refine gw_iload (gc k_Model_tells_2 5 rfl) rfl ?_
          refine gw_if_eq (tgt := 199) (gc k_Model_tells_2 6 rfl) rfl (by omega) (fun c156 => ?_) (fun c156 => ?_)
          · obtain rfl : v2 = v := by omega
            refine gw_aload_n (gc k_Model_tells_2 28 rfl) rfl rfl ?_
            refine gw_dup (gc k_Model_tells_2 29 rfl) rfl ?_
            refine gw_getf 22 rfl (gc k_Model_tells_2 30 rfl) fl_Model_261 (gAt hx rfl rfl) ?_
            rw [evM_22]
            refine gw_iconst (gc k_Model_tells_2 31 rfl) ?_
            refine gw_iadd (gc k_Model_tells_2 32 rfl) ?_
            refine gw_putIK 22 rfl (gc k_Model_tells_2 33 rfl) fl_Model_261 (gAt hx rfl rfl) (hfe _ _) rfl (fun _ => ?_)
            rw [evM_go, Int.add_assoc]
            refine gw_goto (tgt := 61) (gc k_Model_tells_2 34 rfl) rfl ?_
            exact k _ _ _ _ _
          · refine gw_aload_n (gc k_Model_tells_2 7 rfl) rfl rfl ?_
            refine gw_getf 24 rfl (gc k_Model_tells_2 8 rfl) fl_Model_271 (gAt hx rfl rfl) ?_
            rw [evM_24]
            refine gw_if_ne (tgt := 199) (gc k_Model_tells_2 9 rfl) rfl (by omega) (fun c163 => ?_) (fun c163 => ?_)
            · obtain rfl : v2 = v := by omega
              refine gw_aload_n (gc k_Model_tells_2 28 rfl) rfl rfl ?_
              refine gw_dup (gc k_Model_tells_2 29 rfl) rfl ?_
              refine gw_getf 22 rfl (gc k_Model_tells_2 30 rfl) fl_Model_261 (gAt hx rfl rfl) ?_
              rw [evM_22]
              refine gw_iconst (gc k_Model_tells_2 31 rfl) ?_
              refine gw_iadd (gc k_Model_tells_2 32 rfl) ?_
              refine gw_putIK 22 rfl (gc k_Model_tells_2 33 rfl) fl_Model_261 (gAt hx rfl rfl) (hfe _ _) rfl (fun _ => ?_)
              rw [evM_go, Int.add_assoc]
              refine gw_goto (tgt := 61) (gc k_Model_tells_2 34 rfl) rfl ?_
              exact k _ _ _ _ _
            · refine gw_iload (gc k_Model_tells_2 10 rfl) rfl ?_
              refine gw_if_ne (tgt := 199) (gc k_Model_tells_2 11 rfl) rfl (by omega) (fun c168 => ?_) (fun c168 => ?_)
              · obtain rfl : v2 = v := by omega
                refine gw_aload_n (gc k_Model_tells_2 28 rfl) rfl rfl ?_
                refine gw_dup (gc k_Model_tells_2 29 rfl) rfl ?_
                refine gw_getf 22 rfl (gc k_Model_tells_2 30 rfl) fl_Model_261 (gAt hx rfl rfl) ?_
                rw [evM_22]
                refine gw_iconst (gc k_Model_tells_2 31 rfl) ?_
                refine gw_iadd (gc k_Model_tells_2 32 rfl) ?_
                refine gw_putIK 22 rfl (gc k_Model_tells_2 33 rfl) fl_Model_261 (gAt hx rfl rfl) (hfe _ _) rfl (fun _ => ?_)
                rw [evM_go, Int.add_assoc]
                refine gw_goto (tgt := 61) (gc k_Model_tells_2 34 rfl) rfl ?_
                exact k _ _ _ _ _
              · refine gw_lload (gc k_Model_tells_2 12 rfl) rfl ?_
                refine gw_lconst0 (gc k_Model_tells_2 13 rfl) ?_
                refine gw_lc_ge (tgt := 182) (gc k_Model_tells_2 14 rfl) (gc k_Model_tells_2 15 rfl) rfl (by omega) (fun c175 => ?_) (fun c175 => ?_)
                · refine gw_lload (gc k_Model_tells_2 18 rfl) rfl ?_
                  refine gw_iload_n (gc k_Model_tells_2 19 rfl) rfl ?_
                  refine gw_i2l (gc k_Model_tells_2 20 rfl) (by omega) ?_
                  refine gw_lc_le (tgt := 195) (gc k_Model_tells_2 21 rfl) (gc k_Model_tells_2 22 rfl) rfl (by omega) (fun c187 => ?_) (fun c187 => ?_)
                  · obtain rfl : v2 = 1 := by omega
                    refine gw_lload (gc k_Model_tells_2 26 rfl) rfl ?_
                    refine gw_lstore_4 (gc k_Model_tells_2 27 rfl) rfl rfl ?_
                    refine gw_aload_n (gc k_Model_tells_2 28 rfl) rfl rfl ?_
                    refine gw_dup (gc k_Model_tells_2 29 rfl) rfl ?_
                    refine gw_getf 22 rfl (gc k_Model_tells_2 30 rfl) fl_Model_261 (gAt hx rfl rfl) ?_
                    rw [evM_22]
                    refine gw_iconst (gc k_Model_tells_2 31 rfl) ?_
                    refine gw_iadd (gc k_Model_tells_2 32 rfl) ?_
                    refine gw_putIK 22 rfl (gc k_Model_tells_2 33 rfl) fl_Model_261 (gAt hx rfl rfl) (hfe _ _) rfl (fun _ => ?_)
                    rw [evM_go, Int.add_assoc]
                    refine gw_goto (tgt := 61) (gc k_Model_tells_2 34 rfl) rfl ?_
                    exact k _ _ _ _ _
                  · have e2 : top = v2 := by omega
                    subst e2
                    refine gw_iload_n (gc k_Model_tells_2 23 rfl) rfl ?_
                    refine gw_i2l (gc k_Model_tells_2 24 rfl) (by omega) ?_
                    refine gw_goto (tgt := 197) (gc k_Model_tells_2 25 rfl) rfl ?_
                    refine gw_lstore_4 (gc k_Model_tells_2 27 rfl) rfl rfl ?_
                    refine gw_aload_n (gc k_Model_tells_2 28 rfl) rfl rfl ?_
                    refine gw_dup (gc k_Model_tells_2 29 rfl) rfl ?_
                    refine gw_getf 22 rfl (gc k_Model_tells_2 30 rfl) fl_Model_261 (gAt hx rfl rfl) ?_
                    rw [evM_22]
                    refine gw_iconst (gc k_Model_tells_2 31 rfl) ?_
                    refine gw_iadd (gc k_Model_tells_2 32 rfl) ?_
                    refine gw_putIK 22 rfl (gc k_Model_tells_2 33 rfl) fl_Model_261 (gAt hx rfl rfl) (hfe _ _) rfl (fun _ => ?_)
                    rw [evM_go, Int.add_assoc]
                    refine gw_goto (tgt := 61) (gc k_Model_tells_2 34 rfl) rfl ?_
                    exact k _ _ _ _ _
                · obtain rfl : v2 = 0 := by omega
                  refine gw_lconst0 (gc k_Model_tells_2 16 rfl) ?_
                  refine gw_goto (tgt := 197) (gc k_Model_tells_2 17 rfl) rfl ?_
                  refine gw_lstore_4 (gc k_Model_tells_2 27 rfl) rfl rfl ?_
                  refine gw_aload_n (gc k_Model_tells_2 28 rfl) rfl rfl ?_
                  refine gw_dup (gc k_Model_tells_2 29 rfl) rfl ?_
                  refine gw_getf 22 rfl (gc k_Model_tells_2 30 rfl) fl_Model_261 (gAt hx rfl rfl) ?_
                  rw [evM_22]
                  refine gw_iconst (gc k_Model_tells_2 31 rfl) ?_
                  refine gw_iadd (gc k_Model_tells_2 32 rfl) ?_
                  refine gw_putIK 22 rfl (gc k_Model_tells_2 33 rfl) fl_Model_261 (gAt hx rfl rfl) (hfe _ _) rfl (fun _ => ?_)
                  rw [evM_go, Int.add_assoc]
                  refine gw_goto (tgt := 61) (gc k_Model_tells_2 34 rfl) rfl ?_
                  exact k _ _ _ _ _
      · exact absurd rfl c130
