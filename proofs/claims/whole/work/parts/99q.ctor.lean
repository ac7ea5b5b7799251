/-! ===== the constructors ===== -/
abbrev Cop : Type := Nat × Int × Int × Int
def cFr (a v : Int) : Cop := (0, a, v, 0)
def cNw (a : Int) (q : Nat) : Cop := (1, a, q, 0)
def cUp (a k v : Int) : Cop := (2, a, k, v)
def cMu (a n : Int) : Cop := (3, a, n, 0)
/-- one thing done to the memory -/
def copR (o : Cop) (g : gM) : gM := match o.1 with
  | 0 => gfr g o.2.1 (fun _ => o.2.2.1)
  | 1 => gfr g o.2.1 (gdef o.2.2.1.toNat)
  | 2 => gup g o.2.1 o.2.2.1 o.2.2.2
  | _ => gmul g o.2.1 o.2.2.1
/-- the latest stands first -/
def opsR : List Cop → gM → gM
  | [], g => g
  | o :: l, g => copR o (opsR l g)
theorem gmul_a (g : gM) (a N : Int) {x : Int} (y : Int) (h : x ≠ a ∧ (x < a ∨ a + N < x)) : gmul g a N x y = g x y := by
  unfold gmul
  rw [if_neg h.1, if_neg (by omega)]
theorem opsR_app : ∀ (l m : List Cop) (g : gM), opsR (l ++ m) g = opsR l (opsR m g)
  | [], _, _ => rfl
  | o :: l, m, g => congrArg (copR o) (opsR_app l m g)
/-- what stands at a place, where the list says it -/
def opsV : List Cop → Int → Int → Option Int
  | [], _, _ => none
  | (0, b, v, _) :: l, a, k => if a = b then some v else opsV l a k
  | (1, b, q, _) :: l, a, k => if a = b then some (gdef q.toNat k) else opsV l a k
  | (2, b, j, v) :: l, a, k => if a = b ∧ k = j then some v else opsV l a k
  | (_ + 3, b, n, _) :: l, a, k => if a = b then some (b + 1 + k) else if b < a ∧ a ≤ b + n then some 0 else opsV l a k
theorem opsV_ok {g : gM} {a k v : Int} : ∀ {l : List Cop}, opsV l a k = some v → opsR l g a k = v
  | [], h => by cases h
  | (0, b, v', _) :: l, h => by
    show gfr _ b (fun _ => v') a k = v
    unfold opsV at h
    unfold gfr
    split
    · rename_i e; rw [if_pos e] at h; exact Option.some.inj h
    · rename_i e; rw [if_neg e] at h; exact opsV_ok h
  | (1, b, q, _) :: l, h => by
    show gfr _ b (gdef q.toNat) a k = v
    unfold opsV at h
    unfold gfr
    split
    · rename_i e; rw [if_pos e] at h; exact Option.some.inj h
    · rename_i e; rw [if_neg e] at h; exact opsV_ok h
  | (2, b, j, w) :: l, h => by
    show gup _ b j w a k = v
    unfold opsV at h
    by_cases e : a = b
    · subst e
      by_cases e2 : k = j
      · subst e2; rw [gup_s]; rw [if_pos ⟨rfl, rfl⟩] at h; exact Option.some.inj h
      · rw [gup_k _ _ _ _ e2]; rw [if_neg (fun q => e2 q.2)] at h; exact opsV_ok h
    · rw [gup_a _ _ _ _ _ e]; rw [if_neg (fun q => e q.1)] at h; exact opsV_ok h
  | (_ + 3, b, n, _) :: l, h => by
    show gmul _ b n a k = v
    unfold opsV at h
    unfold gmul
    by_cases e : a = b
    · rw [if_pos e] at h ⊢; exact Option.some.inj h
    · rw [if_neg e] at h ⊢
      by_cases e2 : b < a ∧ a ≤ b + n
      · rw [if_pos e2] at h ⊢; exact Option.some.inj h
      · rw [if_neg e2] at h ⊢; exact opsV_ok h
/-- a whole row of one number, untouched since it was made -/
def opsW : List Cop → Int → Option Int
  | [], _ => none
  | (0, b, v, _) :: l, a => if a = b then some v else opsW l a
  | (1, b, _, _) :: l, a => if a = b then none else opsW l a
  | (2, b, _, _) :: l, a => if a = b then none else opsW l a
  | (_ + 3, b, n, _) :: l, a => if a = b then none else if b < a ∧ a ≤ b + n then some 0 else opsW l a
theorem opsW_ok {g : gM} {a v : Int} : ∀ {l : List Cop}, opsW l a = some v → ∀ k, opsR l g a k = v
  | [], h, _ => by cases h
  | (0, b, v', _) :: l, h, k => by
    show gfr _ b (fun _ => v') a k = v
    unfold opsW at h
    unfold gfr
    split
    · rename_i e; rw [if_pos e] at h; exact Option.some.inj h
    · rename_i e; rw [if_neg e] at h; exact opsW_ok h k
  | (1, b, q, _) :: l, h, k => by
    show gfr _ b (gdef q.toNat) a k = v
    unfold opsW at h
    by_cases e : a = b
    · rw [if_pos e] at h; cases h
    · rw [if_neg e] at h; rw [gfr_fn _ _ _ e]; exact opsW_ok h k
  | (2, b, j, w) :: l, h, k => by
    show gup _ b j w a k = v
    unfold opsW at h
    by_cases e : a = b
    · rw [if_pos e] at h; cases h
    · rw [if_neg e] at h; rw [gup_a _ _ _ _ _ e]; exact opsW_ok h k
  | (_ + 3, b, n, _) :: l, h, k => by
    show gmul _ b n a k = v
    unfold opsW at h
    unfold gmul
    by_cases e : a = b
    · rw [if_pos e] at h; cases h
    · rw [if_neg e] at h ⊢
      by_cases e2 : b < a ∧ a ≤ b + n
      · rw [if_pos e2] at h ⊢; exact Option.some.inj h
      · rw [if_neg e2] at h ⊢; exact opsW_ok h k
section GC
variable {F : gF} {d mc ms pc npc : Nat} {ls st : List gV} {sh : gS} {g : gM} {Q : gQ}
theorem gWP.top {t : Nat} {v w : Int} (h : v = w) (kk : gWP F d mc ms pc ls ((t, w) :: st) sh g Q) : gWP F d mc ms pc ls ((t, v) :: st) sh g Q := by
  subst h; exact kk
theorem gWP.mem {g2 : gM} (h : g = g2) (kk : gWP F d mc ms pc ls st sh g2 Q) : gWP F d mc ms pc ls st sh g Q := by
  subst h; exact kk
theorem gw_nO {A : Int} {idx q N : Nat} (hA : (sh.length : Int) = A) (hi : gI F pc (.new idx) 3 npc) (hq : gNW F.1.cls idx q N) (hmc : 1 ≤ mc ∧ N ≤ ms) (kk : gsz (sh ++ [(q, N)]) A q N → ((sh ++ [(q, N)]).length : Int) = A + 1 → gWP F d (mc - 1) (ms - N) npc ls ((2, A) :: st) (sh ++ [(q, N)]) (gfr g A (gdef q)) Q) : gWP F d mc ms pc ls st sh g Q := by
  subst hA
  exact gw_new hi hq hmc (kk (gsz_last _ _ _) len_snoc)
theorem gw_nI {A n : Int} {N : Nat} (hA : (sh.length : Int) = A) (hi : gI F pc (.newarray .int) 2 npc) (hw : Cond.arrayClass .int ∈ lw_good) (hn : 0 ≤ n ∧ n ≤ 60000000) (hN : n.toNat = N) (hmc : 1 ≤ mc ∧ N ≤ ms) (kk : gsz (sh ++ [(13, N)]) A 13 N → ((sh ++ [(13, N)]).length : Int) = A + 1 → gWP F d (mc - 1) (ms - N) npc ls ((2, A) :: st) (sh ++ [(13, N)]) (gfr g A (fun _ => 0)) Q) : gWP F d mc ms pc ls ((0, n) :: st) sh g Q := by
  subst hA
  exact gw_newai hi hw hn hN hmc (kk (gsz_last _ _ _) len_snoc)
theorem gw_nZ {A n : Int} {N : Nat} (hA : (sh.length : Int) = A) (hi : gI F pc (.newarray .boolean) 2 npc) (hw : Cond.arrayClass .boolean ∈ lw_good) (hn : 0 ≤ n ∧ n ≤ 60000000) (hN : n.toNat = N) (hmc : 1 ≤ mc ∧ N ≤ ms) (kk : gsz (sh ++ [(14, N)]) A 14 N → ((sh ++ [(14, N)]).length : Int) = A + 1 → gWP F d (mc - 1) (ms - N) npc ls ((2, A) :: st) (sh ++ [(14, N)]) (gfr g A (fun _ => 0)) Q) : gWP F d mc ms pc ls ((0, n) :: st) sh g Q := by
  subst hA
  exact gw_newaz hi hw hn hN hmc (kk (gsz_last _ _ _) len_snoc)
theorem gw_nB {A n : Int} {N : Nat} (hA : (sh.length : Int) = A) (hi : gI F pc (.newarray .byte) 2 npc) (hw : Cond.arrayClass .byte ∈ lw_good) (hn : 0 ≤ n ∧ n ≤ 60000000) (hN : n.toNat = N) (hmc : 1 ≤ mc ∧ N ≤ ms) (kk : gsz (sh ++ [(15, N)]) A 15 N → ((sh ++ [(15, N)]).length : Int) = A + 1 → gWP F d (mc - 1) (ms - N) npc ls ((2, A) :: st) (sh ++ [(15, N)]) (gfr g A (fun _ => 0)) Q) : gWP F d mc ms pc ls ((0, n) :: st) sh g Q := by
  subst hA
  exact gw_newab hi hw hn hN hmc (kk (gsz_last _ _ _) len_snoc)
theorem gw_nL {A n : Int} {N : Nat} (hA : (sh.length : Int) = A) (hi : gI F pc (.newarray .long) 2 npc) (hw : Cond.arrayClass .long ∈ lw_good) (hn : 0 ≤ n ∧ n ≤ 60000000) (hN : n.toNat = N) (hmc : 1 ≤ mc ∧ N ≤ ms) (kk : gsz (sh ++ [(16, N)]) A 16 N → ((sh ++ [(16, N)]).length : Int) = A + 1 → gWP F d (mc - 1) (ms - N) npc ls ((2, A) :: st) (sh ++ [(16, N)]) (gfr g A (fun _ => 0)) Q) : gWP F d mc ms pc ls ((0, n) :: st) sh g Q := by
  subst hA
  exact gw_newal hi hw hn hN hmc (kk (gsz_last _ _ _) len_snoc)
theorem gw_nT {A n : Int} {N idx : Nat} (hA : (sh.length : Int) = A) (hi : gI F pc (.anewarray idx) 3 npc) (hw : Cond.classLink F.1.cls idx "CounterDesk$Text" ∈ lw_good) (hn : 0 ≤ n ∧ n ≤ 60000000) (hN : n.toNat = N) (hmc : 1 ≤ mc ∧ N ≤ ms) (kk : gsz (sh ++ [(17, N)]) A 17 N → ((sh ++ [(17, N)]).length : Int) = A + 1 → gWP F d (mc - 1) (ms - N) npc ls ((2, A) :: st) (sh ++ [(17, N)]) (gfr g A (fun _ => -1)) Q) : gWP F d mc ms pc ls ((0, n) :: st) sh g Q := by
  subst hA
  exact gw_anewText hi hw hn hN hmc (kk (gsz_last _ _ _) len_snoc)
theorem gw_nD {A n : Int} {N idx : Nat} (hA : (sh.length : Int) = A) (hi : gI F pc (.anewarray idx) 3 npc) (hw : Cond.classLink F.1.cls idx "CounterDesk$Board" ∈ lw_good) (hn : 0 ≤ n ∧ n ≤ 60000000) (hN : n.toNat = N) (hmc : 1 ≤ mc ∧ N ≤ ms) (kk : gsz (sh ++ [(18, N)]) A 18 N → ((sh ++ [(18, N)]).length : Int) = A + 1 → gWP F d (mc - 1) (ms - N) npc ls ((2, A) :: st) (sh ++ [(18, N)]) (gfr g A (fun _ => -1)) Q) : gWP F d mc ms pc ls ((0, n) :: st) sh g Q := by
  subst hA
  exact gw_anewBoard hi hw hn hN hmc (kk (gsz_last _ _ _) len_snoc)
theorem len_mna {sh : gS} {x y : Nat × Nat} {N : Nat} : ((sh ++ x :: List.replicate N y).length : Int) = sh.length + 1 + N := by
  rw [List.length_append, List.length_cons, List.length_replicate]; omega
theorem gsz_mna (sh : gS) (q n : Nat) (t : gS) : gsz (sh ++ (q, n) :: t) (sh.length : Int) q n := ⟨Int.natCast_nonneg _, by rw [Int.toNat_natCast, List.getElem?_append_right (Nat.le_refl _), Nat.sub_self]; rfl⟩
theorem gw_nII {A n k : Int} {N M idx : Nat} (hA : (sh.length : Int) = A) (hi : gI F pc (.multianewarray idx 2) 4 npc) (hw : Cond.classLink F.1.cls idx "[[I" ∈ lw_good) (hn : 0 ≤ n ∧ n ≤ 1000) (hk : 0 ≤ k ∧ k ≤ 100000) (hN : n.toNat = N) (hM : k.toNat = M) (hmc : 1 + N ≤ mc ∧ N + N * M ≤ ms) (kk : gsz (sh ++ (19, N) :: List.replicate N (13, M)) A 19 N → ((sh ++ (19, N) :: List.replicate N (13, M)).length : Int) = A + 1 + N → gWP F d (mc - (1 + N)) (ms - (N + N * M)) npc ls ((2, A) :: st) (sh ++ (19, N) :: List.replicate N (13, M)) (gmul g A N) Q) : gWP F d mc ms pc ls ((0, k) :: (0, n) :: st) sh g Q := by
  subst hA
  exact gmna (ty := .int) (to := 6) (ti := 0) (by decide) (by decide) (fun _ => rfl) (fun _ => rfl) (fun _ => by intro h; cases h) (fun _ _ h => h.2.2.2.1) (fun _ => rfl) (by rfl) (by rfl) (by decide) hi hw wd_aint hn hk hN hM hmc (kk (gsz_mna _ _ _ _) len_mna)
theorem gw_nLL {A n k : Int} {N M idx : Nat} (hA : (sh.length : Int) = A) (hi : gI F pc (.multianewarray idx 2) 4 npc) (hw : Cond.classLink F.1.cls idx "[[J" ∈ lw_good) (hn : 0 ≤ n ∧ n ≤ 1000) (hk : 0 ≤ k ∧ k ≤ 100000) (hN : n.toNat = N) (hM : k.toNat = M) (hmc : 1 + N ≤ mc ∧ N + N * M ≤ ms) (kk : gsz (sh ++ (20, N) :: List.replicate N (16, M)) A 20 N → ((sh ++ (20, N) :: List.replicate N (16, M)).length : Int) = A + 1 + N → gWP F d (mc - (1 + N)) (ms - (N + N * M)) npc ls ((2, A) :: st) (sh ++ (20, N) :: List.replicate N (16, M)) (gmul g A N) Q) : gWP F d mc ms pc ls ((0, k) :: (0, n) :: st) sh g Q := by
  subst hA
  exact gmna (ty := .long) (to := 7) (ti := 3) (by decide) (by decide) (fun _ => rfl) (fun _ => rfl) (fun _ => by intro h; cases h) (fun _ _ h => h.2.2.2.2.1) (fun _ => rfl) (by rfl) (by rfl) (by decide) hi hw wd_along hn hk hN hM hmc (kk (gsz_mna _ _ _ _) len_mna)
theorem gw_putIC {idx q k N : Nat} {fin : Bool} {a x : Int} (kI : Int) (hk : (k : Int) = kI) (hi : gI F pc (.putfield idx) 3 npc) (hf : gFL F.1.cls idx q k N 0 .int fin) (hs : gsz sh a q N) (hfin : fin = false ∨ (F.1.name = "<init>" ∧ (gcl.getD q ("", (fun _ => ("", "", "", false)), 0)).1 = F.1.cls)) (kk : gWP F d mc ms npc ls st sh (gup g a kI x) Q) : gWP F d mc ms pc ls ((0, x) :: (2, a) :: st) sh g Q := by
  subst hk
  exact gw_putI hi hf hs hfin kk
theorem gp_nO {l : List Cop} {A : Int} {idx q N : Nat} (hA : (sh.length : Int) = A) (hi : gI F pc (.new idx) 3 npc) (hq : gNW F.1.cls idx q N) (hmc : 1 ≤ mc ∧ N ≤ ms) (kk : gsz (sh ++ [(q, N)]) A q N → ((sh ++ [(q, N)]).length : Int) = A + 1 → gWP F d (mc - 1) (ms - N) npc ls ((2, A) :: st) (sh ++ [(q, N)]) (opsR (cNw A q :: l) g) Q) : gWP F d mc ms pc ls st sh (opsR l g) Q := gw_nO hA hi hq hmc kk
theorem gp_nI {l : List Cop} {A n : Int} {N : Nat} (hA : (sh.length : Int) = A) (hi : gI F pc (.newarray .int) 2 npc) (hw : Cond.arrayClass .int ∈ lw_good) (hn : 0 ≤ n ∧ n ≤ 60000000) (hN : n.toNat = N) (hmc : 1 ≤ mc ∧ N ≤ ms) (kk : gsz (sh ++ [(13, N)]) A 13 N → ((sh ++ [(13, N)]).length : Int) = A + 1 → gWP F d (mc - 1) (ms - N) npc ls ((2, A) :: st) (sh ++ [(13, N)]) (opsR (cFr A 0 :: l) g) Q) : gWP F d mc ms pc ls ((0, n) :: st) sh (opsR l g) Q := gw_nI hA hi hw hn hN hmc kk
theorem gp_nZ {l : List Cop} {A n : Int} {N : Nat} (hA : (sh.length : Int) = A) (hi : gI F pc (.newarray .boolean) 2 npc) (hw : Cond.arrayClass .boolean ∈ lw_good) (hn : 0 ≤ n ∧ n ≤ 60000000) (hN : n.toNat = N) (hmc : 1 ≤ mc ∧ N ≤ ms) (kk : gsz (sh ++ [(14, N)]) A 14 N → ((sh ++ [(14, N)]).length : Int) = A + 1 → gWP F d (mc - 1) (ms - N) npc ls ((2, A) :: st) (sh ++ [(14, N)]) (opsR (cFr A 0 :: l) g) Q) : gWP F d mc ms pc ls ((0, n) :: st) sh (opsR l g) Q := gw_nZ hA hi hw hn hN hmc kk
theorem gp_nL {l : List Cop} {A n : Int} {N : Nat} (hA : (sh.length : Int) = A) (hi : gI F pc (.newarray .long) 2 npc) (hw : Cond.arrayClass .long ∈ lw_good) (hn : 0 ≤ n ∧ n ≤ 60000000) (hN : n.toNat = N) (hmc : 1 ≤ mc ∧ N ≤ ms) (kk : gsz (sh ++ [(16, N)]) A 16 N → ((sh ++ [(16, N)]).length : Int) = A + 1 → gWP F d (mc - 1) (ms - N) npc ls ((2, A) :: st) (sh ++ [(16, N)]) (opsR (cFr A 0 :: l) g) Q) : gWP F d mc ms pc ls ((0, n) :: st) sh (opsR l g) Q := gw_nL hA hi hw hn hN hmc kk
theorem gp_nD {l : List Cop} {A n : Int} {N idx : Nat} (hA : (sh.length : Int) = A) (hi : gI F pc (.anewarray idx) 3 npc) (hw : Cond.classLink F.1.cls idx "CounterDesk$Board" ∈ lw_good) (hn : 0 ≤ n ∧ n ≤ 60000000) (hN : n.toNat = N) (hmc : 1 ≤ mc ∧ N ≤ ms) (kk : gsz (sh ++ [(18, N)]) A 18 N → ((sh ++ [(18, N)]).length : Int) = A + 1 → gWP F d (mc - 1) (ms - N) npc ls ((2, A) :: st) (sh ++ [(18, N)]) (opsR (cFr A (-1) :: l) g) Q) : gWP F d mc ms pc ls ((0, n) :: st) sh (opsR l g) Q := gw_nD hA hi hw hn hN hmc kk
theorem gp_putIC {l : List Cop} {idx q k N : Nat} {fin : Bool} {a x : Int} (kI : Int) (hk : (k : Int) = kI) (hi : gI F pc (.putfield idx) 3 npc) (hf : gFL F.1.cls idx q k N 0 .int fin) (hs : gsz sh a q N) (hfin : fin = false ∨ (F.1.name = "<init>" ∧ (gcl.getD q ("", (fun _ => ("", "", "", false)), 0)).1 = F.1.cls)) (kk : gWP F d mc ms npc ls st sh (opsR (cUp a kI x :: l) g) Q) : gWP F d mc ms pc ls ((0, x) :: (2, a) :: st) sh (opsR l g) Q := gw_putIC kI hk hi hf hs hfin kk
theorem gp_putAK {l : List Cop} {idx q k N : Nat} {fin : Bool} {a x : Int} {ty : FieldType} (kI : Int) (hk : (k : Int) = kI) (hi : gI F pc (.putfield idx) 3 npc) (hf : gFL F.1.cls idx q k N 2 ty fin) (hs : gsz sh a q N) (hfin : fin = false ∨ (F.1.name = "<init>" ∧ (gcl.getD q ("", (fun _ => ("", "", "", false)), 0)).1 = F.1.cls)) (hty : (∃ n, ty = .object n) ∨ ∃ t, ty = .array t) (kk : gWP F d mc ms npc ls st sh (opsR (cUp a kI x :: l) g) Q) : gWP F d mc ms pc ls ((2, x) :: (2, a) :: st) sh (opsR l g) Q := gw_putAK kI hk hi hf hs hfin hty kk
theorem gp_aast_Board {l : List Cop} {a i x : Int} {n N : Nat} (hi : gI F pc (.aastore) 1 npc) (hs : gsz sh a 18 n) (hx : 0 ≤ i ∧ i < (n : Int) ∧ i ≤ 2147483647) (hv : x < 0 ∨ gsz sh x 1 N) (kk : gWP F d mc ms npc ls st sh (opsR (cUp a i x :: l) g) Q) : gWP F d mc ms pc ls ((2, x) :: (0, i) :: (2, a) :: st) sh (opsR l g) Q := gw_aast_Board hi hs hx hv kk
end GC
def sBoard_init : gS := [(13, 12)] ++ [(13, 12)] ++ [(13, 5)] ++ [(13, 6)] ++ [(13, 6)] ++ [(17, 6)]
def oBoard_init (o : Int) : List Cop := (cUp o 9 (-1) :: (cUp (o + 3) 4 24 :: (cUp (o + 3) 1 1 :: (cUp o 8 (o + 6) :: (cFr (o + 6) (-1) :: (cUp o 6 (o + 5) :: (cFr (o + 5) 0 :: (cUp o 5 (o + 4) :: (cFr (o + 4) 0 :: (cUp o 3 (o + 3) :: (cFr (o + 3) 0 :: (cUp o 2 (o + 2) :: (cFr (o + 2) 0 :: (cUp o 1 (o + 1) :: (cFr (o + 1) 0 :: [])))))))))))))))
set_option maxHeartbeats 4000000 in
theorem c_Board_init {sh : gS} {g : gM} {o : Int} (hS : (sh.length : Int) = o + 1) (hO : gsz sh o 1 10) : gTri f_Board_init 1 6 47 [(2, o)] sh g (fun x s1 g1 => x = none ∧ s1 = sh ++ sBoard_init ∧ g1 = opsR (oBoard_init o) g ∧ (s1.length : Int) = o + 7) := by
  have h0 := hO.1
  have hO0 := hO
  refine gTri.of (by decide +kernel) rfl ?_
  show gWP f_Board_init _ _ _ 0 [(2, o)] [] sh g _
  refine gw_aload_n (gc k_Board_init_0 0 rfl) rfl rfl ?_
  refine gw_objInit (gc k_Board_init_0 1 rfl) ln_Board_3 wd_oins wd_ocode (by omega) rfl rfl ?_
  refine gw_aload_n (gc k_Board_init_0 2 rfl) rfl rfl ?_
  refine gw_bipush (gc k_Board_init_0 3 rfl) (by decide) ?_
  refine gw_nI (A := o + 1) (N := 12) (by omega) (gc k_Board_init_0 4 rfl) wd_aint (by omega) rfl (by omega) (fun z7 l7 => ?_)
  refine gw_putAK 1 rfl (gc k_Board_init_0 5 rfl) fl_Board_9 (hO0.app _) (Or.inr ⟨rfl, rfl⟩) (Or.inr ⟨_, rfl⟩) ?_
  refine gw_aload_n (gc k_Board_init_0 6 rfl) rfl rfl ?_
  refine gw_bipush (gc k_Board_init_0 7 rfl) (by decide) ?_
  refine gw_nI (A := o + 2) (N := 12) (by omega) (gc k_Board_init_0 8 rfl) wd_aint (by omega) rfl (by omega) (fun z15 l15 => ?_)
  refine gw_putAK 2 rfl (gc k_Board_init_0 9 rfl) fl_Board_15 ((hO0.app _).app _) (Or.inr ⟨rfl, rfl⟩) (Or.inr ⟨_, rfl⟩) ?_
  refine gw_aload_n (gc k_Board_init_0 10 rfl) rfl rfl ?_
  refine gw_iconst (gc k_Board_init_0 11 rfl) ?_
  refine gw_nI (A := o + 3) (N := 5) (by omega) (gc k_Board_init_0 12 rfl) wd_aint (by omega) rfl (by omega) (fun z22 l22 => ?_)
  refine gw_putAK 3 rfl (gc k_Board_init_0 13 rfl) fl_Board_18 (((hO0.app _).app _).app _) (Or.inr ⟨rfl, rfl⟩) (Or.inr ⟨_, rfl⟩) ?_
  refine gw_aload_n (gc k_Board_init_0 14 rfl) rfl rfl ?_
  refine gw_bipush (gc k_Board_init_0 15 rfl) (by decide) ?_
  refine gw_nI (A := o + 4) (N := 6) (by omega) (gc k_Board_init_0 16 rfl) wd_aint (by omega) rfl (by omega) (fun z30 l30 => ?_)
  refine gw_putAK 5 rfl (gc k_Board_init_0 17 rfl) fl_Board_21 ((((hO0.app _).app _).app _).app _) (Or.inr ⟨rfl, rfl⟩) (Or.inr ⟨_, rfl⟩) ?_
  refine gw_aload_n (gc k_Board_init_0 18 rfl) rfl rfl ?_
  refine gw_bipush (gc k_Board_init_0 19 rfl) (by decide) ?_
  refine gw_nI (A := o + 5) (N := 6) (by omega) (gc k_Board_init_0 20 rfl) wd_aint (by omega) rfl (by omega) (fun z38 l38 => ?_)
  refine gw_putAK 6 rfl (gc k_Board_init_0 21 rfl) fl_Board_24 (((((hO0.app _).app _).app _).app _).app _) (Or.inr ⟨rfl, rfl⟩) (Or.inr ⟨_, rfl⟩) ?_
  refine gw_aload_n (gc k_Board_init_0 22 rfl) rfl rfl ?_
  refine gw_bipush (gc k_Board_init_0 23 rfl) (by decide) ?_
  refine gw_nT (A := o + 6) (N := 6) (by omega) (gc k_Board_init_0 24 rfl) cl_Board_27 (by omega) rfl (by omega) (fun z46 l46 => ?_)
  refine gw_putAK 8 rfl (gc k_Board_init_0 25 rfl) fl_Board_29 ((((((hO0.app _).app _).app _).app _).app _).app _) (Or.inr ⟨rfl, rfl⟩) (Or.inr ⟨_, rfl⟩) ?_
  refine gw_aload_n (gc k_Board_init_0 26 rfl) rfl rfl ?_
  refine gw_getf 3 rfl (gc k_Board_init_0 27 rfl) fl_Board_18 ((((((hO0.app _).app _).app _).app _).app _).app _) ?_
  refine gWP.top (w := o + 3) (by rw [gup_k _ _ _ _ (by decide), gfr_fn _ _ _ (by omega), gup_k _ _ _ _ (by decide), gfr_fn _ _ _ (by omega), gup_k _ _ _ _ (by decide), gfr_fn _ _ _ (by omega), gup_s]) ?_
  refine gw_iconst (gc k_Board_init_0 28 rfl) ?_
  refine gw_iconst (gc k_Board_init_0 29 rfl) ?_
  refine gw_iast (gc k_Board_init_0 30 rfl) (((z22.app _).app _).app _) (by omega) ?_
  refine gw_aload_n (gc k_Board_init_0 31 rfl) rfl rfl ?_
  refine gw_getf 3 rfl (gc k_Board_init_0 32 rfl) fl_Board_18 ((((((hO0.app _).app _).app _).app _).app _).app _) ?_
  refine gWP.top (w := o + 3) (by rw [gup_a _ _ _ _ _ (by omega), gup_k _ _ _ _ (by decide), gfr_fn _ _ _ (by omega), gup_k _ _ _ _ (by decide), gfr_fn _ _ _ (by omega), gup_k _ _ _ _ (by decide), gfr_fn _ _ _ (by omega), gup_s]) ?_
  refine gw_iconst (gc k_Board_init_0 33 rfl) ?_
  refine gw_bipush (gc k_Board_init_0 34 rfl) (by decide) ?_
  refine gw_iast (gc k_Board_init_0 35 rfl) (((z22.app _).app _).app _) (by omega) ?_
  refine gw_aload_n (gc k_Board_init_0 36 rfl) rfl rfl ?_
  refine gw_iconst (gc k_Board_init_0 37 rfl) ?_
  refine gw_putIC 9 rfl (gc k_Board_init_0 38 rfl) fl_Board_33 ((((((hO0.app _).app _).app _).app _).app _).app _) (by first | exact Or.inl rfl | exact Or.inr ⟨rfl, rfl⟩) ?_
  refine gw_return (gc k_Board_init_0 39 rfl) rfl ?_
  exact ⟨rfl, by simp [sBoard_init], rfl, by omega⟩
def sMachine_init : gS := [(13, 51)]
def oMachine_init (o : Int) : List Cop := (cUp o 0 (o + 1) :: (cFr (o + 1) 0 :: []))
set_option maxHeartbeats 4000000 in
theorem c_Machine_init {sh : gS} {g : gM} {o : Int} (hS : (sh.length : Int) = o + 1) (hO : gsz sh o 5 1) : gTri f_Machine_init 1 1 51 [(2, o)] sh g (fun x s1 g1 => x = none ∧ s1 = sh ++ sMachine_init ∧ g1 = opsR (oMachine_init o) g ∧ (s1.length : Int) = o + 2) := by
  have h0 := hO.1
  have hO0 := hO
  refine gTri.of (by decide +kernel) rfl ?_
  show gWP f_Machine_init _ _ _ 0 [(2, o)] [] sh g _
  refine gw_aload_n (gc k_Machine_init_0 0 rfl) rfl rfl ?_
  refine gw_objInit (gc k_Machine_init_0 1 rfl) ln_Machine_3 wd_oins wd_ocode (by omega) rfl rfl ?_
  refine gw_aload_n (gc k_Machine_init_0 2 rfl) rfl rfl ?_
  refine gw_bipush (gc k_Machine_init_0 3 rfl) (by decide) ?_
  refine gw_nI (A := o + 1) (N := 51) (by omega) (gc k_Machine_init_0 4 rfl) wd_aint (by omega) rfl (by omega) (fun z7 l7 => ?_)
  refine gw_putAK 0 rfl (gc k_Machine_init_0 5 rfl) fl_Machine_9 (hO0.app _) (Or.inr ⟨rfl, rfl⟩) (Or.inr ⟨_, rfl⟩) ?_
  refine gw_return (gc k_Machine_init_0 6 rfl) rfl ?_
  exact ⟨rfl, by simp [sMachine_init, sBoard_init], rfl, by omega⟩
def sTrail_init : gS := [(13, 16)] ++ [(13, 16)] ++ [(13, 16)]
def oTrail_init (o : Int) : List Cop := (cUp o 2 (o + 3) :: (cFr (o + 3) 0 :: (cUp o 1 (o + 2) :: (cFr (o + 2) 0 :: (cUp o 0 (o + 1) :: (cFr (o + 1) 0 :: []))))))
set_option maxHeartbeats 4000000 in
theorem c_Trail_init {sh : gS} {g : gM} {o : Int} (hS : (sh.length : Int) = o + 1) (hO : gsz sh o 11 4) : gTri f_Trail_init 1 3 48 [(2, o)] sh g (fun x s1 g1 => x = none ∧ s1 = sh ++ sTrail_init ∧ g1 = opsR (oTrail_init o) g ∧ (s1.length : Int) = o + 4) := by
  have h0 := hO.1
  have hO0 := hO
  refine gTri.of (by decide +kernel) rfl ?_
  show gWP f_Trail_init _ _ _ 0 [(2, o)] [] sh g _
  refine gw_aload_n (gc k_Trail_init_0 0 rfl) rfl rfl ?_
  refine gw_objInit (gc k_Trail_init_0 1 rfl) ln_Trail_3 wd_oins wd_ocode (by omega) rfl rfl ?_
  refine gw_aload_n (gc k_Trail_init_0 2 rfl) rfl rfl ?_
  refine gw_bipush (gc k_Trail_init_0 3 rfl) (by decide) ?_
  refine gw_nI (A := o + 1) (N := 16) (by omega) (gc k_Trail_init_0 4 rfl) wd_aint (by omega) rfl (by omega) (fun z7 l7 => ?_)
  refine gw_putAK 0 rfl (gc k_Trail_init_0 5 rfl) fl_Trail_9 (hO0.app _) (Or.inr ⟨rfl, rfl⟩) (Or.inr ⟨_, rfl⟩) ?_
  refine gw_aload_n (gc k_Trail_init_0 6 rfl) rfl rfl ?_
  refine gw_bipush (gc k_Trail_init_0 7 rfl) (by decide) ?_
  refine gw_nI (A := o + 2) (N := 16) (by omega) (gc k_Trail_init_0 8 rfl) wd_aint (by omega) rfl (by omega) (fun z15 l15 => ?_)
  refine gw_putAK 1 rfl (gc k_Trail_init_0 9 rfl) fl_Trail_15 ((hO0.app _).app _) (Or.inr ⟨rfl, rfl⟩) (Or.inr ⟨_, rfl⟩) ?_
  refine gw_aload_n (gc k_Trail_init_0 10 rfl) rfl rfl ?_
  refine gw_bipush (gc k_Trail_init_0 11 rfl) (by decide) ?_
  refine gw_nI (A := o + 3) (N := 16) (by omega) (gc k_Trail_init_0 12 rfl) wd_aint (by omega) rfl (by omega) (fun z23 l23 => ?_)
  refine gw_putAK 2 rfl (gc k_Trail_init_0 13 rfl) fl_Trail_18 (((hO0.app _).app _).app _) (Or.inr ⟨rfl, rfl⟩) (Or.inr ⟨_, rfl⟩) ?_
  refine gw_return (gc k_Trail_init_0 14 rfl) rfl ?_
  exact ⟨rfl, by simp [sTrail_init, sBoard_init, sMachine_init], rfl, by omega⟩
def sJudge_init : gS := [(5, 1)] ++ sMachine_init ++ [(13, 10)]
def oJudge_init : List Cop := (cUp 8 1 11 :: (cFr 11 0 :: (cUp 8 0 9 :: (oMachine_init 9 ++ (cNw 9 5 :: [])))))
set_option maxHeartbeats 4000000 in
theorem c_Judge_init {sh : gS} {g : gM} (hS : (sh.length : Int) = 8 + 1) (hO : gsz sh 8 4 4) : gTri f_Judge_init 2 3 62 [(2, 8)] sh g (fun x s1 g1 => x = none ∧ s1 = sh ++ sJudge_init ∧ g1 = opsR oJudge_init g ∧ (s1.length : Int) = 12) := by
  have h0 := hO.1
  have hO0 := hO
  refine gTri.of (by decide +kernel) rfl ?_
  show gWP f_Judge_init _ _ _ 0 [(2, 8)] [] sh g _
  refine gw_aload_n (gc k_Judge_init_0 0 rfl) rfl rfl ?_
  refine gw_objInit (gc k_Judge_init_0 1 rfl) ln_Judge_3 wd_oins wd_ocode (by omega) rfl rfl ?_
  refine gw_aload_n (gc k_Judge_init_0 2 rfl) rfl rfl ?_
  refine gw_nO (A := 9) (by omega) (gc k_Judge_init_0 3 rfl) nw_Judge_9 (by omega) (fun z5 l5 => ?_)
  refine gw_dup (gc k_Judge_init_0 4 rfl) rfl ?_
  refine gw_callIN (gc k_Judge_init_0 5 rfl) y_Machine_init ln_Judge_11 (c_Machine_init l5 z5) rfl rfl (by omega) rfl rfl ⟨by omega, by omega⟩ (fun r9 sh2 g9 hq9 => ?_)
  obtain ⟨rfl, rfl, rfl, l9⟩ := hq9
  refine gw_putAK 0 rfl (gc k_Judge_init_0 6 rfl) fl_Judge_12 ((hO0.app _).app _) (Or.inr ⟨rfl, rfl⟩) (Or.inl ⟨_, rfl⟩) ?_
  refine gw_aload_n (gc k_Judge_init_0 7 rfl) rfl rfl ?_
  refine gw_bipush (gc k_Judge_init_0 8 rfl) (by decide) ?_
  refine gw_nI (A := 11) (N := 10) (by omega) (gc k_Judge_init_0 9 rfl) wd_aint (by omega) rfl (by omega) (fun z18 l18 => ?_)
  refine gw_putAK 1 rfl (gc k_Judge_init_0 10 rfl) fl_Judge_18 (((hO0.app _).app _).app _) (Or.inr ⟨rfl, rfl⟩) (Or.inr ⟨_, rfl⟩) ?_
  refine gw_return (gc k_Judge_init_0 11 rfl) rfl ?_
  exact ⟨rfl, by simp [sJudge_init, sBoard_init, sMachine_init, sTrail_init], rfl, by omega⟩
def sSheet_init : gS := (19, 12) :: List.replicate 12 (13, 625) ++ [(16, 12)] ++ [(17, 12)]
def oSheet_init (o : Int) (k : Int) : List Cop := (cUp (o + 14) 11 (-1) :: (cUp (o + 14) 10 (-1) :: (cUp (o + 14) 9 (-1) :: (cUp (o + 14) 8 (-1) :: (cUp (o + 14) 7 (-1) :: (cUp (o + 14) 6 (-1) :: (cUp (o + 14) 5 (-1) :: (cUp (o + 14) 4 (-1) :: (cUp (o + 14) 3 (-1) :: (cUp (o + 14) 2 (-1) :: (cUp (o + 14) 1 (-1) :: (cUp (o + 14) 0 (-1) :: (cUp o 1 k :: (cUp o 3 (o + 15) :: (cFr (o + 15) (-1) :: (cUp o 2 (o + 14) :: (cFr (o + 14) 0 :: (cUp o 0 (o + 1) :: (cMu (o + 1) 12 :: [])))))))))))))))))))
set_option maxHeartbeats 4000000 in
theorem c_Sheet_init {sh : gS} {g : gM} {o : Int} {k : Int} (hS : (sh.length : Int) = o + 1) (hO : gsz sh o 8 4) : gTri f_Sheet_init 1 15 7536 [(2, o), (0, k)] sh g (fun x s1 g1 => x = none ∧ s1 = sh ++ sSheet_init ∧ g1 = opsR (oSheet_init o k) g ∧ (s1.length : Int) = o + 16) := by
  have h0 := hO.1
  have hO0 := hO
  refine gTri.of (by decide +kernel) rfl ?_
  show gWP f_Sheet_init _ _ _ 0 [(2, o), (0, k), (9, 0)] [] sh g _
  refine gw_aload_n (gc k_Sheet_init_0 0 rfl) rfl rfl ?_
  refine gw_objInit (gc k_Sheet_init_0 1 rfl) ln_Sheet_3 wd_oins wd_ocode (by omega) rfl rfl ?_
  refine gw_aload_n (gc k_Sheet_init_0 2 rfl) rfl rfl ?_
  refine gw_bipush (gc k_Sheet_init_0 3 rfl) (by decide) ?_
  refine gw_sipush (gc k_Sheet_init_0 4 rfl) (by decide) ?_
  refine gw_nII (A := o + 1) (N := 12) (M := 625) (by omega) (gc k_Sheet_init_0 5 rfl) cl_Sheet_9 (by omega) (by omega) rfl rfl (by omega) (fun z10 l10 => ?_)
  refine gw_putAK 0 rfl (gc k_Sheet_init_0 6 rfl) fl_Sheet_11 (hO0.app _) (Or.inr ⟨rfl, rfl⟩) (Or.inr ⟨_, rfl⟩) ?_
  refine gw_aload_n (gc k_Sheet_init_0 7 rfl) rfl rfl ?_
  refine gw_bipush (gc k_Sheet_init_0 8 rfl) (by decide) ?_
  refine gw_nL (A := o + 14) (N := 12) (by omega) (gc k_Sheet_init_0 9 rfl) wd_along (by omega) rfl (by omega) (fun z20 l20 => ?_)
  refine gw_putAK 2 rfl (gc k_Sheet_init_0 10 rfl) fl_Sheet_16 ((hO0.app _).app _) (Or.inr ⟨rfl, rfl⟩) (Or.inr ⟨_, rfl⟩) ?_
  refine gw_aload_n (gc k_Sheet_init_0 11 rfl) rfl rfl ?_
  refine gw_bipush (gc k_Sheet_init_0 12 rfl) (by decide) ?_
  refine gw_nT (A := o + 15) (N := 12) (by omega) (gc k_Sheet_init_0 13 rfl) cl_Sheet_20 (by omega) rfl (by omega) (fun z28 l28 => ?_)
  refine gw_putAK 3 rfl (gc k_Sheet_init_0 14 rfl) fl_Sheet_22 (((hO0.app _).app _).app _) (Or.inr ⟨rfl, rfl⟩) (Or.inr ⟨_, rfl⟩) ?_
  refine gw_aload_n (gc k_Sheet_init_0 15 rfl) rfl rfl ?_
  refine gw_iload_n (gc k_Sheet_init_0 16 rfl) rfl ?_
  refine gw_putIC 1 rfl (gc k_Sheet_init_0 17 rfl) fl_Sheet_26 (((hO0.app _).app _).app _) (by first | exact Or.inl rfl | exact Or.inr ⟨rfl, rfl⟩) ?_
  refine gw_iconst (gc k_Sheet_init_0 18 rfl) ?_
  refine gw_istore_2 (gc k_Sheet_init_0 19 rfl) rfl rfl ?_
  refine gw_iload_n (gc k_Sheet_init_0 20 rfl) rfl ?_
  refine gw_bipush (gc k_Sheet_init_0 21 rfl) (by decide) ?_
  refine gw_icmp_ge (tgt := 62) (gc k_Sheet_init_0 22 rfl) rfl (by omega) (fun c44 => ?_) (fun c44 => ?_)
  · exfalso; omega
  · refine gw_aload_n (gc k_Sheet_init_0 23 rfl) rfl rfl ?_
    refine gw_getf 2 rfl (gc k_Sheet_init_0 24 rfl) fl_Sheet_16 (((hO0.app _).app _).app _) ?_
    refine gWP.top (w := o + 14) (by rw [gup_k _ _ _ _ (by decide), gup_k _ _ _ _ (by decide), gfr_fn _ _ _ (by omega), gup_s]) ?_
    refine gw_iload_n (gc k_Sheet_init_0 25 rfl) rfl ?_
    refine gw_ldc2 (gc k_Sheet_init_0 26 rfl) cn_Sheet_30 ?_
    refine gw_last (gc k_Sheet_init_0 27 rfl) (z20.app _) (by omega) ?_
    refine gw_iinc_2 (gc k_Sheet_init_0 28 rfl) rfl rfl ?_
    refine gw_goto (tgt := 41) (gc k_Sheet_init_0 29 rfl) rfl ?_
    refine gw_iload_n (gc k_Sheet_init_0 20 rfl) rfl ?_
    refine gw_bipush (gc k_Sheet_init_0 21 rfl) (by decide) ?_
    refine gw_icmp_ge (tgt := 62) (gc k_Sheet_init_0 22 rfl) rfl (by omega) (fun c44 => ?_) (fun c44 => ?_)
    · exfalso; omega
    · refine gw_aload_n (gc k_Sheet_init_0 23 rfl) rfl rfl ?_
      refine gw_getf 2 rfl (gc k_Sheet_init_0 24 rfl) fl_Sheet_16 (((hO0.app _).app _).app _) ?_
      refine gWP.top (w := o + 14) (by rw [gup_a _ _ _ _ _ (by omega), gup_k _ _ _ _ (by decide), gup_k _ _ _ _ (by decide), gfr_fn _ _ _ (by omega), gup_s]) ?_
      refine gw_iload_n (gc k_Sheet_init_0 25 rfl) rfl ?_
      refine gw_ldc2 (gc k_Sheet_init_0 26 rfl) cn_Sheet_30 ?_
      refine gw_last (gc k_Sheet_init_0 27 rfl) (z20.app _) (by omega) ?_
      refine gw_iinc_2 (gc k_Sheet_init_0 28 rfl) rfl rfl ?_
      refine gw_goto (tgt := 41) (gc k_Sheet_init_0 29 rfl) rfl ?_
      refine gw_iload_n (gc k_Sheet_init_0 20 rfl) rfl ?_
      refine gw_bipush (gc k_Sheet_init_0 21 rfl) (by decide) ?_
      refine gw_icmp_ge (tgt := 62) (gc k_Sheet_init_0 22 rfl) rfl (by omega) (fun c44 => ?_) (fun c44 => ?_)
      · exfalso; omega
      · refine gw_aload_n (gc k_Sheet_init_0 23 rfl) rfl rfl ?_
        refine gw_getf 2 rfl (gc k_Sheet_init_0 24 rfl) fl_Sheet_16 (((hO0.app _).app _).app _) ?_
        refine gWP.top (w := o + 14) (by rw [gup_a _ _ _ _ _ (by omega), gup_a _ _ _ _ _ (by omega), gup_k _ _ _ _ (by decide), gup_k _ _ _ _ (by decide), gfr_fn _ _ _ (by omega), gup_s]) ?_
        refine gw_iload_n (gc k_Sheet_init_0 25 rfl) rfl ?_
        refine gw_ldc2 (gc k_Sheet_init_0 26 rfl) cn_Sheet_30 ?_
        refine gw_last (gc k_Sheet_init_0 27 rfl) (z20.app _) (by omega) ?_
        refine gw_iinc_2 (gc k_Sheet_init_0 28 rfl) rfl rfl ?_
        refine gw_goto (tgt := 41) (gc k_Sheet_init_0 29 rfl) rfl ?_
        refine gw_iload_n (gc k_Sheet_init_0 20 rfl) rfl ?_
        refine gw_bipush (gc k_Sheet_init_0 21 rfl) (by decide) ?_
        refine gw_icmp_ge (tgt := 62) (gc k_Sheet_init_0 22 rfl) rfl (by omega) (fun c44 => ?_) (fun c44 => ?_)
        · exfalso; omega
        · refine gw_aload_n (gc k_Sheet_init_0 23 rfl) rfl rfl ?_
          refine gw_getf 2 rfl (gc k_Sheet_init_0 24 rfl) fl_Sheet_16 (((hO0.app _).app _).app _) ?_
          refine gWP.top (w := o + 14) (by rw [gup_a _ _ _ _ _ (by omega), gup_a _ _ _ _ _ (by omega), gup_a _ _ _ _ _ (by omega), gup_k _ _ _ _ (by decide), gup_k _ _ _ _ (by decide), gfr_fn _ _ _ (by omega), gup_s]) ?_
          refine gw_iload_n (gc k_Sheet_init_0 25 rfl) rfl ?_
          refine gw_ldc2 (gc k_Sheet_init_0 26 rfl) cn_Sheet_30 ?_
          refine gw_last (gc k_Sheet_init_0 27 rfl) (z20.app _) (by omega) ?_
          refine gw_iinc_2 (gc k_Sheet_init_0 28 rfl) rfl rfl ?_
          refine gw_goto (tgt := 41) (gc k_Sheet_init_0 29 rfl) rfl ?_
          refine gw_iload_n (gc k_Sheet_init_0 20 rfl) rfl ?_
          refine gw_bipush (gc k_Sheet_init_0 21 rfl) (by decide) ?_
          refine gw_icmp_ge (tgt := 62) (gc k_Sheet_init_0 22 rfl) rfl (by omega) (fun c44 => ?_) (fun c44 => ?_)
          · exfalso; omega
          · refine gw_aload_n (gc k_Sheet_init_0 23 rfl) rfl rfl ?_
            refine gw_getf 2 rfl (gc k_Sheet_init_0 24 rfl) fl_Sheet_16 (((hO0.app _).app _).app _) ?_
            refine gWP.top (w := o + 14) (by rw [gup_a _ _ _ _ _ (by omega), gup_a _ _ _ _ _ (by omega), gup_a _ _ _ _ _ (by omega), gup_a _ _ _ _ _ (by omega), gup_k _ _ _ _ (by decide), gup_k _ _ _ _ (by decide), gfr_fn _ _ _ (by omega), gup_s]) ?_
            refine gw_iload_n (gc k_Sheet_init_0 25 rfl) rfl ?_
            refine gw_ldc2 (gc k_Sheet_init_0 26 rfl) cn_Sheet_30 ?_
            refine gw_last (gc k_Sheet_init_0 27 rfl) (z20.app _) (by omega) ?_
            refine gw_iinc_2 (gc k_Sheet_init_0 28 rfl) rfl rfl ?_
            refine gw_goto (tgt := 41) (gc k_Sheet_init_0 29 rfl) rfl ?_
            refine gw_iload_n (gc k_Sheet_init_0 20 rfl) rfl ?_
            refine gw_bipush (gc k_Sheet_init_0 21 rfl) (by decide) ?_
            refine gw_icmp_ge (tgt := 62) (gc k_Sheet_init_0 22 rfl) rfl (by omega) (fun c44 => ?_) (fun c44 => ?_)
            · exfalso; omega
            · refine gw_aload_n (gc k_Sheet_init_0 23 rfl) rfl rfl ?_
              refine gw_getf 2 rfl (gc k_Sheet_init_0 24 rfl) fl_Sheet_16 (((hO0.app _).app _).app _) ?_
              refine gWP.top (w := o + 14) (by rw [gup_a _ _ _ _ _ (by omega), gup_a _ _ _ _ _ (by omega), gup_a _ _ _ _ _ (by omega), gup_a _ _ _ _ _ (by omega), gup_a _ _ _ _ _ (by omega), gup_k _ _ _ _ (by decide), gup_k _ _ _ _ (by decide), gfr_fn _ _ _ (by omega), gup_s]) ?_
              refine gw_iload_n (gc k_Sheet_init_0 25 rfl) rfl ?_
              refine gw_ldc2 (gc k_Sheet_init_0 26 rfl) cn_Sheet_30 ?_
              refine gw_last (gc k_Sheet_init_0 27 rfl) (z20.app _) (by omega) ?_
              refine gw_iinc_2 (gc k_Sheet_init_0 28 rfl) rfl rfl ?_
              refine gw_goto (tgt := 41) (gc k_Sheet_init_0 29 rfl) rfl ?_
              refine gw_iload_n (gc k_Sheet_init_0 20 rfl) rfl ?_
              refine gw_bipush (gc k_Sheet_init_0 21 rfl) (by decide) ?_
              refine gw_icmp_ge (tgt := 62) (gc k_Sheet_init_0 22 rfl) rfl (by omega) (fun c44 => ?_) (fun c44 => ?_)
              · exfalso; omega
              · refine gw_aload_n (gc k_Sheet_init_0 23 rfl) rfl rfl ?_
                refine gw_getf 2 rfl (gc k_Sheet_init_0 24 rfl) fl_Sheet_16 (((hO0.app _).app _).app _) ?_
                refine gWP.top (w := o + 14) (by rw [gup_a _ _ _ _ _ (by omega), gup_a _ _ _ _ _ (by omega), gup_a _ _ _ _ _ (by omega), gup_a _ _ _ _ _ (by omega), gup_a _ _ _ _ _ (by omega), gup_a _ _ _ _ _ (by omega), gup_k _ _ _ _ (by decide), gup_k _ _ _ _ (by decide), gfr_fn _ _ _ (by omega), gup_s]) ?_
                refine gw_iload_n (gc k_Sheet_init_0 25 rfl) rfl ?_
                refine gw_ldc2 (gc k_Sheet_init_0 26 rfl) cn_Sheet_30 ?_
                refine gw_last (gc k_Sheet_init_0 27 rfl) (z20.app _) (by omega) ?_
                refine gw_iinc_2 (gc k_Sheet_init_0 28 rfl) rfl rfl ?_
                refine gw_goto (tgt := 41) (gc k_Sheet_init_0 29 rfl) rfl ?_
                refine gw_iload_n (gc k_Sheet_init_0 20 rfl) rfl ?_
                refine gw_bipush (gc k_Sheet_init_0 21 rfl) (by decide) ?_
                refine gw_icmp_ge (tgt := 62) (gc k_Sheet_init_0 22 rfl) rfl (by omega) (fun c44 => ?_) (fun c44 => ?_)
                · exfalso; omega
                · refine gw_aload_n (gc k_Sheet_init_0 23 rfl) rfl rfl ?_
                  refine gw_getf 2 rfl (gc k_Sheet_init_0 24 rfl) fl_Sheet_16 (((hO0.app _).app _).app _) ?_
                  refine gWP.top (w := o + 14) (by rw [gup_a _ _ _ _ _ (by omega), gup_a _ _ _ _ _ (by omega), gup_a _ _ _ _ _ (by omega), gup_a _ _ _ _ _ (by omega), gup_a _ _ _ _ _ (by omega), gup_a _ _ _ _ _ (by omega), gup_a _ _ _ _ _ (by omega), gup_k _ _ _ _ (by decide), gup_k _ _ _ _ (by decide), gfr_fn _ _ _ (by omega), gup_s]) ?_
                  refine gw_iload_n (gc k_Sheet_init_0 25 rfl) rfl ?_
                  refine gw_ldc2 (gc k_Sheet_init_0 26 rfl) cn_Sheet_30 ?_
                  refine gw_last (gc k_Sheet_init_0 27 rfl) (z20.app _) (by omega) ?_
                  refine gw_iinc_2 (gc k_Sheet_init_0 28 rfl) rfl rfl ?_
                  refine gw_goto (tgt := 41) (gc k_Sheet_init_0 29 rfl) rfl ?_
                  refine gw_iload_n (gc k_Sheet_init_0 20 rfl) rfl ?_
                  refine gw_bipush (gc k_Sheet_init_0 21 rfl) (by decide) ?_
                  refine gw_icmp_ge (tgt := 62) (gc k_Sheet_init_0 22 rfl) rfl (by omega) (fun c44 => ?_) (fun c44 => ?_)
                  · exfalso; omega
                  · refine gw_aload_n (gc k_Sheet_init_0 23 rfl) rfl rfl ?_
                    refine gw_getf 2 rfl (gc k_Sheet_init_0 24 rfl) fl_Sheet_16 (((hO0.app _).app _).app _) ?_
                    refine gWP.top (w := o + 14) (by rw [gup_a _ _ _ _ _ (by omega), gup_a _ _ _ _ _ (by omega), gup_a _ _ _ _ _ (by omega), gup_a _ _ _ _ _ (by omega), gup_a _ _ _ _ _ (by omega), gup_a _ _ _ _ _ (by omega), gup_a _ _ _ _ _ (by omega), gup_a _ _ _ _ _ (by omega), gup_k _ _ _ _ (by decide), gup_k _ _ _ _ (by decide), gfr_fn _ _ _ (by omega), gup_s]) ?_
                    refine gw_iload_n (gc k_Sheet_init_0 25 rfl) rfl ?_
                    refine gw_ldc2 (gc k_Sheet_init_0 26 rfl) cn_Sheet_30 ?_
                    refine gw_last (gc k_Sheet_init_0 27 rfl) (z20.app _) (by omega) ?_
                    refine gw_iinc_2 (gc k_Sheet_init_0 28 rfl) rfl rfl ?_
                    refine gw_goto (tgt := 41) (gc k_Sheet_init_0 29 rfl) rfl ?_
                    refine gw_iload_n (gc k_Sheet_init_0 20 rfl) rfl ?_
                    refine gw_bipush (gc k_Sheet_init_0 21 rfl) (by decide) ?_
                    refine gw_icmp_ge (tgt := 62) (gc k_Sheet_init_0 22 rfl) rfl (by omega) (fun c44 => ?_) (fun c44 => ?_)
                    · exfalso; omega
                    · refine gw_aload_n (gc k_Sheet_init_0 23 rfl) rfl rfl ?_
                      refine gw_getf 2 rfl (gc k_Sheet_init_0 24 rfl) fl_Sheet_16 (((hO0.app _).app _).app _) ?_
                      refine gWP.top (w := o + 14) (by rw [gup_a _ _ _ _ _ (by omega), gup_a _ _ _ _ _ (by omega), gup_a _ _ _ _ _ (by omega), gup_a _ _ _ _ _ (by omega), gup_a _ _ _ _ _ (by omega), gup_a _ _ _ _ _ (by omega), gup_a _ _ _ _ _ (by omega), gup_a _ _ _ _ _ (by omega), gup_a _ _ _ _ _ (by omega), gup_k _ _ _ _ (by decide), gup_k _ _ _ _ (by decide), gfr_fn _ _ _ (by omega), gup_s]) ?_
                      refine gw_iload_n (gc k_Sheet_init_0 25 rfl) rfl ?_
                      refine gw_ldc2 (gc k_Sheet_init_0 26 rfl) cn_Sheet_30 ?_
                      refine gw_last (gc k_Sheet_init_0 27 rfl) (z20.app _) (by omega) ?_
                      refine gw_iinc_2 (gc k_Sheet_init_0 28 rfl) rfl rfl ?_
                      refine gw_goto (tgt := 41) (gc k_Sheet_init_0 29 rfl) rfl ?_
                      refine gw_iload_n (gc k_Sheet_init_0 20 rfl) rfl ?_
                      refine gw_bipush (gc k_Sheet_init_0 21 rfl) (by decide) ?_
                      refine gw_icmp_ge (tgt := 62) (gc k_Sheet_init_0 22 rfl) rfl (by omega) (fun c44 => ?_) (fun c44 => ?_)
                      · exfalso; omega
                      · refine gw_aload_n (gc k_Sheet_init_0 23 rfl) rfl rfl ?_
                        refine gw_getf 2 rfl (gc k_Sheet_init_0 24 rfl) fl_Sheet_16 (((hO0.app _).app _).app _) ?_
                        refine gWP.top (w := o + 14) (by rw [gup_a _ _ _ _ _ (by omega), gup_a _ _ _ _ _ (by omega), gup_a _ _ _ _ _ (by omega), gup_a _ _ _ _ _ (by omega), gup_a _ _ _ _ _ (by omega), gup_a _ _ _ _ _ (by omega), gup_a _ _ _ _ _ (by omega), gup_a _ _ _ _ _ (by omega), gup_a _ _ _ _ _ (by omega), gup_a _ _ _ _ _ (by omega), gup_k _ _ _ _ (by decide), gup_k _ _ _ _ (by decide), gfr_fn _ _ _ (by omega), gup_s]) ?_
                        refine gw_iload_n (gc k_Sheet_init_0 25 rfl) rfl ?_
                        refine gw_ldc2 (gc k_Sheet_init_0 26 rfl) cn_Sheet_30 ?_
                        refine gw_last (gc k_Sheet_init_0 27 rfl) (z20.app _) (by omega) ?_
                        refine gw_iinc_2 (gc k_Sheet_init_0 28 rfl) rfl rfl ?_
                        refine gw_goto (tgt := 41) (gc k_Sheet_init_0 29 rfl) rfl ?_
                        refine gw_iload_n (gc k_Sheet_init_0 20 rfl) rfl ?_
                        refine gw_bipush (gc k_Sheet_init_0 21 rfl) (by decide) ?_
                        refine gw_icmp_ge (tgt := 62) (gc k_Sheet_init_0 22 rfl) rfl (by omega) (fun c44 => ?_) (fun c44 => ?_)
                        · exfalso; omega
                        · refine gw_aload_n (gc k_Sheet_init_0 23 rfl) rfl rfl ?_
                          refine gw_getf 2 rfl (gc k_Sheet_init_0 24 rfl) fl_Sheet_16 (((hO0.app _).app _).app _) ?_
                          refine gWP.top (w := o + 14) (by rw [gup_a _ _ _ _ _ (by omega), gup_a _ _ _ _ _ (by omega), gup_a _ _ _ _ _ (by omega), gup_a _ _ _ _ _ (by omega), gup_a _ _ _ _ _ (by omega), gup_a _ _ _ _ _ (by omega), gup_a _ _ _ _ _ (by omega), gup_a _ _ _ _ _ (by omega), gup_a _ _ _ _ _ (by omega), gup_a _ _ _ _ _ (by omega), gup_a _ _ _ _ _ (by omega), gup_k _ _ _ _ (by decide), gup_k _ _ _ _ (by decide), gfr_fn _ _ _ (by omega), gup_s]) ?_
                          refine gw_iload_n (gc k_Sheet_init_0 25 rfl) rfl ?_
                          refine gw_ldc2 (gc k_Sheet_init_0 26 rfl) cn_Sheet_30 ?_
                          refine gw_last (gc k_Sheet_init_0 27 rfl) (z20.app _) (by omega) ?_
                          refine gw_iinc_2 (gc k_Sheet_init_0 28 rfl) rfl rfl ?_
                          refine gw_goto (tgt := 41) (gc k_Sheet_init_0 29 rfl) rfl ?_
                          refine gw_iload_n (gc k_Sheet_init_0 20 rfl) rfl ?_
                          refine gw_bipush (gc k_Sheet_init_0 21 rfl) (by decide) ?_
                          refine gw_icmp_ge (tgt := 62) (gc k_Sheet_init_0 22 rfl) rfl (by omega) (fun c44 => ?_) (fun c44 => ?_)
                          · refine gw_return (gc k_Sheet_init_0 30 rfl) rfl ?_
                            exact ⟨rfl, by simp [sSheet_init, sBoard_init, sMachine_init, sTrail_init, sJudge_init], rfl, by omega⟩
                          · exfalso; omega
def sClerk_init : gS := [(11, 4)] ++ sTrail_init ++ [(5, 1)] ++ sMachine_init ++ [(1, 10)] ++ sBoard_init ++ [(11, 4)] ++ sTrail_init ++ [(13, 29)]
def oClerk_init : List Cop := (cUp 12 3 8 :: (cUp 12 2 1 :: (cUp 12 7 30 :: (cFr 30 0 :: (cUp 12 6 26 :: (oTrail_init 26 ++ (cNw 26 11 :: (cUp 12 5 19 :: (oBoard_init 19 ++ (cNw 19 1 :: (cUp 12 4 17 :: (oMachine_init 17 ++ (cNw 17 5 :: (cUp 12 1 (-1) :: (cUp 12 0 13 :: (oTrail_init 13 ++ (cNw 13 11 :: [])))))))))))))))))
set_option maxHeartbeats 4000000 in
theorem c_Clerk_init {sh : gS} {g : gM} (hS : (sh.length : Int) = 12 + 1) (hO : gsz sh 12 2 10) : gTri f_Clerk_init 2 18 242 [(2, 12), (2, 1), (2, 8)] sh g (fun x s1 g1 => x = none ∧ s1 = sh ++ sClerk_init ∧ g1 = opsR oClerk_init g ∧ (s1.length : Int) = 31) := by
  have h0 := hO.1
  have hO0 := hO
  refine gTri.of (by decide +kernel) rfl ?_
  show gWP f_Clerk_init _ _ _ 0 [(2, 12), (2, 1), (2, 8)] [] sh g _
  refine gw_aload_n (gc k_Clerk_init_0 0 rfl) rfl rfl ?_
  refine gw_objInit (gc k_Clerk_init_0 1 rfl) ln_Clerk_3 wd_oins wd_ocode (by omega) rfl rfl ?_
  refine gw_aload_n (gc k_Clerk_init_0 2 rfl) rfl rfl ?_
  refine gw_nO (A := 13) (by omega) (gc k_Clerk_init_0 3 rfl) nw_Clerk_9 (by omega) (fun z5 l5 => ?_)
  refine gw_dup (gc k_Clerk_init_0 4 rfl) rfl ?_
  refine gw_callIN (gc k_Clerk_init_0 5 rfl) y_Trail_init ln_Clerk_11 (c_Trail_init l5 z5) rfl rfl (by omega) rfl rfl ⟨by omega, by omega⟩ (fun r9 sh2 g9 hq9 => ?_)
  obtain ⟨rfl, rfl, rfl, l9⟩ := hq9
  refine gw_putAK 0 rfl (gc k_Clerk_init_0 6 rfl) fl_Clerk_12 ((hO0.app _).app _) (Or.inr ⟨rfl, rfl⟩) (Or.inl ⟨_, rfl⟩) ?_
  refine gw_aload_n (gc k_Clerk_init_0 7 rfl) rfl rfl ?_
  refine gw_iconst (gc k_Clerk_init_0 8 rfl) ?_
  refine gw_putIC 1 rfl (gc k_Clerk_init_0 9 rfl) fl_Clerk_18 ((hO0.app _).app _) (by first | exact Or.inl rfl | exact Or.inr ⟨rfl, rfl⟩) ?_
  refine gw_aload_n (gc k_Clerk_init_0 10 rfl) rfl rfl ?_
  refine gw_nO (A := 17) (by omega) (gc k_Clerk_init_0 11 rfl) nw_Clerk_22 (by omega) (fun z21 l21 => ?_)
  refine gw_dup (gc k_Clerk_init_0 12 rfl) rfl ?_
  refine gw_callIN (gc k_Clerk_init_0 13 rfl) y_Machine_init ln_Clerk_24 (c_Machine_init l21 z21) rfl rfl (by omega) rfl rfl ⟨by omega, by omega⟩ (fun r25 sh2 g25 hq25 => ?_)
  obtain ⟨rfl, rfl, rfl, l25⟩ := hq25
  refine gw_putAK 4 rfl (gc k_Clerk_init_0 14 rfl) fl_Clerk_25 ((((hO0.app _).app _).app _).app _) (Or.inr ⟨rfl, rfl⟩) (Or.inl ⟨_, rfl⟩) ?_
  refine gw_aload_n (gc k_Clerk_init_0 15 rfl) rfl rfl ?_
  refine gw_nO (A := 19) (by omega) (gc k_Clerk_init_0 16 rfl) nw_Clerk_29 (by omega) (fun z32 l32 => ?_)
  refine gw_dup (gc k_Clerk_init_0 17 rfl) rfl ?_
  refine gw_callI (gc k_Clerk_init_0 18 rfl) y_Board_init ln_Clerk_31 (c_Board_init l32 z32) rfl rfl (by omega) rfl rfl ⟨by omega, by omega⟩ (fun r36 sh2 g36 hq36 => ?_)
  obtain ⟨rfl, rfl, rfl, l36⟩ := hq36
  refine gw_putAK 5 rfl (gc k_Clerk_init_0 19 rfl) fl_Clerk_32 ((((((hO0.app _).app _).app _).app _).app _).app _) (Or.inr ⟨rfl, rfl⟩) (Or.inl ⟨_, rfl⟩) ?_
  refine gw_aload_n (gc k_Clerk_init_0 20 rfl) rfl rfl ?_
  refine gw_nO (A := 26) (by omega) (gc k_Clerk_init_0 21 rfl) nw_Clerk_9 (by omega) (fun z43 l43 => ?_)
  refine gw_dup (gc k_Clerk_init_0 22 rfl) rfl ?_
  refine gw_callIN (gc k_Clerk_init_0 23 rfl) y_Trail_init ln_Clerk_11 (c_Trail_init l43 z43) rfl rfl (by omega) rfl rfl ⟨by omega, by omega⟩ (fun r47 sh2 g47 hq47 => ?_)
  obtain ⟨rfl, rfl, rfl, l47⟩ := hq47
  refine gw_putAK 6 rfl (gc k_Clerk_init_0 24 rfl) fl_Clerk_36 ((((((((hO0.app _).app _).app _).app _).app _).app _).app _).app _) (Or.inr ⟨rfl, rfl⟩) (Or.inl ⟨_, rfl⟩) ?_
  refine gw_aload_n (gc k_Clerk_init_0 25 rfl) rfl rfl ?_
  refine gw_bipush (gc k_Clerk_init_0 26 rfl) (by decide) ?_
  refine gw_nI (A := 30) (N := 29) (by omega) (gc k_Clerk_init_0 27 rfl) wd_aint (by omega) rfl (by omega) (fun z56 l56 => ?_)
  refine gw_putAK 7 rfl (gc k_Clerk_init_0 28 rfl) fl_Clerk_39 (((((((((hO0.app _).app _).app _).app _).app _).app _).app _).app _).app _) (Or.inr ⟨rfl, rfl⟩) (Or.inr ⟨_, rfl⟩) ?_
  refine gw_aload_n (gc k_Clerk_init_0 29 rfl) rfl rfl ?_
  refine gw_aload_n (gc k_Clerk_init_0 30 rfl) rfl rfl ?_
  refine gw_putAK 2 rfl (gc k_Clerk_init_0 31 rfl) fl_Clerk_43 (((((((((hO0.app _).app _).app _).app _).app _).app _).app _).app _).app _) (Or.inr ⟨rfl, rfl⟩) (Or.inl ⟨_, rfl⟩) ?_
  refine gw_aload_n (gc k_Clerk_init_0 32 rfl) rfl rfl ?_
  refine gw_aload_n (gc k_Clerk_init_0 33 rfl) rfl rfl ?_
  refine gw_putAK 3 rfl (gc k_Clerk_init_0 34 rfl) fl_Clerk_46 (((((((((hO0.app _).app _).app _).app _).app _).app _).app _).app _).app _) (Or.inr ⟨rfl, rfl⟩) (Or.inl ⟨_, rfl⟩) ?_
  refine gw_return (gc k_Clerk_init_0 35 rfl) rfl ?_
  exact ⟨rfl, by simp [sClerk_init, sBoard_init, sMachine_init, sTrail_init, sJudge_init, sSheet_init], rfl, by omega⟩
def sPaper_init : gS := [(8, 4)] ++ sSheet_init ++ [(8, 4)] ++ sSheet_init ++ [(8, 4)] ++ sSheet_init ++ (19, 12) :: List.replicate 12 (13, 25) ++ (19, 12) :: List.replicate 12 (13, 25) ++ (20, 12) :: List.replicate 12 (16, 25) ++ (19, 12) :: List.replicate 12 (13, 25) ++ [(13, 12)] ++ [(13, 12)] ++ [(1, 10)] ++ sBoard_init
def oPaper_init : List Cop := (cUp 31 2 8 :: (cUp 31 12 134 :: (oBoard_init 134 ++ (cNw 134 1 :: (cUp 31 11 133 :: (cFr 133 0 :: (cUp 31 10 132 :: (cFr 132 0 :: (cUp 31 9 119 :: (cMu 119 12 :: (cUp 31 8 106 :: (cMu 106 12 :: (cUp 31 7 93 :: (cMu 93 12 :: (cUp 31 6 80 :: (cMu 80 12 :: (cUp 31 5 64 :: (oSheet_init 64 2 ++ (cNw 64 8 :: (cUp 31 4 48 :: (oSheet_init 48 1 ++ (cNw 48 8 :: (cUp 31 3 32 :: (oSheet_init 32 0 ++ (cNw 32 8 :: [])))))))))))))))))))))))))
set_option maxHeartbeats 4000000 in
theorem c_Paper_init {sh : gS} {g : gM} (hS : (sh.length : Int) = 31 + 1) (hO : gsz sh 31 6 13) : gTri f_Paper_init 2 109 23949 [(2, 31), (2, 8)] sh g (fun x s1 g1 => x = none ∧ s1 = sh ++ sPaper_init ∧ g1 = opsR oPaper_init g ∧ (s1.length : Int) = 141) := by
  have h0 := hO.1
  have hO0 := hO
  refine gTri.of (by decide +kernel) rfl ?_
  show gWP f_Paper_init _ _ _ 0 [(2, 31), (2, 8)] [] sh g _
  refine gw_aload_n (gc k_Paper_init_0 0 rfl) rfl rfl ?_
  refine gw_objInit (gc k_Paper_init_0 1 rfl) ln_Paper_3 wd_oins wd_ocode (by omega) rfl rfl ?_
  refine gw_aload_n (gc k_Paper_init_0 2 rfl) rfl rfl ?_
  refine gw_nO (A := 32) (by omega) (gc k_Paper_init_0 3 rfl) nw_Paper_9 (by omega) (fun z5 l5 => ?_)
  refine gw_dup (gc k_Paper_init_0 4 rfl) rfl ?_
  refine gw_iconst (gc k_Paper_init_0 5 rfl) ?_
  refine gw_callI (gc k_Paper_init_0 6 rfl) y_Sheet_init ln_Paper_11 (c_Sheet_init (k := 0) l5 z5) rfl rfl (by omega) rfl rfl ⟨by omega, by omega⟩ (fun r10 sh2 g10 hq10 => ?_)
  obtain ⟨rfl, rfl, rfl, l10⟩ := hq10
  refine gw_putAK 3 rfl (gc k_Paper_init_0 7 rfl) fl_Paper_14 ((hO0.app _).app _) (Or.inr ⟨rfl, rfl⟩) (Or.inl ⟨_, rfl⟩) ?_
  refine gw_aload_n (gc k_Paper_init_0 8 rfl) rfl rfl ?_
  refine gw_nO (A := 48) (by omega) (gc k_Paper_init_0 9 rfl) nw_Paper_9 (by omega) (fun z17 l17 => ?_)
  refine gw_dup (gc k_Paper_init_0 10 rfl) rfl ?_
  refine gw_iconst (gc k_Paper_init_0 11 rfl) ?_
  refine gw_callI (gc k_Paper_init_0 12 rfl) y_Sheet_init ln_Paper_11 (c_Sheet_init (k := 1) l17 z17) rfl rfl (by omega) rfl rfl ⟨by omega, by omega⟩ (fun r22 sh2 g22 hq22 => ?_)
  obtain ⟨rfl, rfl, rfl, l22⟩ := hq22
  refine gw_putAK 4 rfl (gc k_Paper_init_0 13 rfl) fl_Paper_20 ((((hO0.app _).app _).app _).app _) (Or.inr ⟨rfl, rfl⟩) (Or.inl ⟨_, rfl⟩) ?_
  refine gw_aload_n (gc k_Paper_init_0 14 rfl) rfl rfl ?_
  refine gw_nO (A := 64) (by omega) (gc k_Paper_init_0 15 rfl) nw_Paper_9 (by omega) (fun z29 l29 => ?_)
  refine gw_dup (gc k_Paper_init_0 16 rfl) rfl ?_
  refine gw_iconst (gc k_Paper_init_0 17 rfl) ?_
  refine gw_callI (gc k_Paper_init_0 18 rfl) y_Sheet_init ln_Paper_11 (c_Sheet_init (k := 2) l29 z29) rfl rfl (by omega) rfl rfl ⟨by omega, by omega⟩ (fun r34 sh2 g34 hq34 => ?_)
  obtain ⟨rfl, rfl, rfl, l34⟩ := hq34
  refine gw_putAK 5 rfl (gc k_Paper_init_0 19 rfl) fl_Paper_23 ((((((hO0.app _).app _).app _).app _).app _).app _) (Or.inr ⟨rfl, rfl⟩) (Or.inl ⟨_, rfl⟩) ?_
  refine gw_aload_n (gc k_Paper_init_0 20 rfl) rfl rfl ?_
  refine gw_bipush (gc k_Paper_init_0 21 rfl) (by decide) ?_
  refine gw_bipush (gc k_Paper_init_0 22 rfl) (by decide) ?_
  refine gw_nII (A := 80) (N := 12) (M := 25) (by omega) (gc k_Paper_init_0 23 rfl) cl_Paper_26 (by omega) (by omega) rfl rfl (by omega) (fun z45 l45 => ?_)
  refine gw_putAK 6 rfl (gc k_Paper_init_0 24 rfl) fl_Paper_28 (((((((hO0.app _).app _).app _).app _).app _).app _).app _) (Or.inr ⟨rfl, rfl⟩) (Or.inr ⟨_, rfl⟩) ?_
  refine gw_aload_n (gc k_Paper_init_0 25 rfl) rfl rfl ?_
  refine gw_bipush (gc k_Paper_init_0 26 rfl) (by decide) ?_
  refine gw_bipush (gc k_Paper_init_0 27 rfl) (by decide) ?_
  refine gw_nII (A := 93) (N := 12) (M := 25) (by omega) (gc k_Paper_init_0 28 rfl) cl_Paper_26 (by omega) (by omega) rfl rfl (by omega) (fun z57 l57 => ?_)
  refine gw_putAK 7 rfl (gc k_Paper_init_0 29 rfl) fl_Paper_31 ((((((((hO0.app _).app _).app _).app _).app _).app _).app _).app _) (Or.inr ⟨rfl, rfl⟩) (Or.inr ⟨_, rfl⟩) ?_
  refine gw_aload_n (gc k_Paper_init_0 30 rfl) rfl rfl ?_
  refine gw_bipush (gc k_Paper_init_0 31 rfl) (by decide) ?_
  refine gw_bipush (gc k_Paper_init_0 32 rfl) (by decide) ?_
  refine gw_nLL (A := 106) (N := 12) (M := 25) (by omega) (gc k_Paper_init_0 33 rfl) cl_Paper_34 (by omega) (by omega) rfl rfl (by omega) (fun z69 l69 => ?_)
  refine gw_putAK 8 rfl (gc k_Paper_init_0 34 rfl) fl_Paper_36 (((((((((hO0.app _).app _).app _).app _).app _).app _).app _).app _).app _) (Or.inr ⟨rfl, rfl⟩) (Or.inr ⟨_, rfl⟩) ?_
  refine gw_aload_n (gc k_Paper_init_0 35 rfl) rfl rfl ?_
  refine gw_bipush (gc k_Paper_init_0 36 rfl) (by decide) ?_
  refine gw_bipush (gc k_Paper_init_0 37 rfl) (by decide) ?_
  refine gw_nII (A := 119) (N := 12) (M := 25) (by omega) (gc k_Paper_init_0 38 rfl) cl_Paper_26 (by omega) (by omega) rfl rfl (by omega) (fun z81 l81 => ?_)
  refine gw_putAK 9 rfl (gc k_Paper_init_0 39 rfl) fl_Paper_39 ((((((((((hO0.app _).app _).app _).app _).app _).app _).app _).app _).app _).app _) (Or.inr ⟨rfl, rfl⟩) (Or.inr ⟨_, rfl⟩) ?_
  refine gw_aload_n (gc k_Paper_init_1 0 rfl) rfl rfl ?_
  refine gw_bipush (gc k_Paper_init_1 1 rfl) (by decide) ?_
  refine gw_nI (A := 132) (N := 12) (by omega) (gc k_Paper_init_1 2 rfl) wd_aint (by omega) rfl (by omega) (fun z91 l91 => ?_)
  refine gw_putAK 10 rfl (gc k_Paper_init_1 3 rfl) fl_Paper_42 (((((((((((hO0.app _).app _).app _).app _).app _).app _).app _).app _).app _).app _).app _) (Or.inr ⟨rfl, rfl⟩) (Or.inr ⟨_, rfl⟩) ?_
  refine gw_aload_n (gc k_Paper_init_1 4 rfl) rfl rfl ?_
  refine gw_bipush (gc k_Paper_init_1 5 rfl) (by decide) ?_
  refine gw_nI (A := 133) (N := 12) (by omega) (gc k_Paper_init_1 6 rfl) wd_aint (by omega) rfl (by omega) (fun z99 l99 => ?_)
  refine gw_putAK 11 rfl (gc k_Paper_init_1 7 rfl) fl_Paper_46 ((((((((((((hO0.app _).app _).app _).app _).app _).app _).app _).app _).app _).app _).app _).app _) (Or.inr ⟨rfl, rfl⟩) (Or.inr ⟨_, rfl⟩) ?_
  refine gw_aload_n (gc k_Paper_init_1 8 rfl) rfl rfl ?_
  refine gw_nO (A := 134) (by omega) (gc k_Paper_init_1 9 rfl) nw_Paper_49 (by omega) (fun z105 l105 => ?_)
  refine gw_dup (gc k_Paper_init_1 10 rfl) rfl ?_
  refine gw_callI (gc k_Paper_init_1 11 rfl) y_Board_init ln_Paper_51 (c_Board_init l105 z105) rfl rfl (by omega) rfl rfl ⟨by omega, by omega⟩ (fun r109 sh2 g109 hq109 => ?_)
  obtain ⟨rfl, rfl, rfl, l109⟩ := hq109
  refine gw_putAK 12 rfl (gc k_Paper_init_1 12 rfl) fl_Paper_52 ((((((((((((((hO0.app _).app _).app _).app _).app _).app _).app _).app _).app _).app _).app _).app _).app _).app _) (Or.inr ⟨rfl, rfl⟩) (Or.inl ⟨_, rfl⟩) ?_
  refine gw_aload_n (gc k_Paper_init_1 13 rfl) rfl rfl ?_
  refine gw_aload_n (gc k_Paper_init_1 14 rfl) rfl rfl ?_
  refine gw_putAK 2 rfl (gc k_Paper_init_1 15 rfl) fl_Paper_56 ((((((((((((((hO0.app _).app _).app _).app _).app _).app _).app _).app _).app _).app _).app _).app _).app _).app _) (Or.inr ⟨rfl, rfl⟩) (Or.inl ⟨_, rfl⟩) ?_
  refine gw_return (gc k_Paper_init_1 16 rfl) rfl ?_
  exact ⟨rfl, by simp [sPaper_init, sBoard_init, sMachine_init, sTrail_init, sJudge_init, sSheet_init, sClerk_init], rfl, by omega⟩
def sDraws_init : gS := [(1, 10)] ++ sBoard_init
def oDraws_init : List Cop := (cUp 141 0 142 :: (oBoard_init 142 ++ (cNw 142 1 :: [])))
set_option maxHeartbeats 4000000 in
theorem c_Draws_init {sh : gS} {g : gM} (hS : (sh.length : Int) = 141 + 1) (hO : gsz sh 141 3 3) : gTri f_Draws_init 2 7 57 [(2, 141)] sh g (fun x s1 g1 => x = none ∧ s1 = sh ++ sDraws_init ∧ g1 = opsR oDraws_init g ∧ (s1.length : Int) = 149) := by
  have h0 := hO.1
  have hO0 := hO
  refine gTri.of (by decide +kernel) rfl ?_
  show gWP f_Draws_init _ _ _ 0 [(2, 141)] [] sh g _
  refine gw_aload_n (gc k_Draws_init_0 0 rfl) rfl rfl ?_
  refine gw_objInit (gc k_Draws_init_0 1 rfl) ln_Draws_3 wd_oins wd_ocode (by omega) rfl rfl ?_
  refine gw_aload_n (gc k_Draws_init_0 2 rfl) rfl rfl ?_
  refine gw_nO (A := 142) (by omega) (gc k_Draws_init_0 3 rfl) nw_Draws_9 (by omega) (fun z5 l5 => ?_)
  refine gw_dup (gc k_Draws_init_0 4 rfl) rfl ?_
  refine gw_callI (gc k_Draws_init_0 5 rfl) y_Board_init ln_Draws_11 (c_Board_init l5 z5) rfl rfl (by omega) rfl rfl ⟨by omega, by omega⟩ (fun r9 sh2 g9 hq9 => ?_)
  obtain ⟨rfl, rfl, rfl, l9⟩ := hq9
  refine gw_putAK 0 rfl (gc k_Draws_init_0 6 rfl) fl_Draws_12 ((hO0.app _).app _) (Or.inr ⟨rfl, rfl⟩) (Or.inl ⟨_, rfl⟩) ?_
  refine gw_return (gc k_Draws_init_0 7 rfl) rfl ?_
  exact ⟨rfl, by simp [sDraws_init, sBoard_init, sMachine_init, sTrail_init, sJudge_init, sSheet_init, sClerk_init, sPaper_init], rfl, by omega⟩
def sTape_init : gS := [(13, 400)]
def oTape_init : List Cop := (cUp 149 0 150 :: (cFr 150 0 :: []))
set_option maxHeartbeats 4000000 in
theorem c_Tape_init {sh : gS} {g : gM} (hS : (sh.length : Int) = 149 + 1) (hO : gsz sh 149 9 2) : gTri f_Tape_init 1 1 400 [(2, 149)] sh g (fun x s1 g1 => x = none ∧ s1 = sh ++ sTape_init ∧ g1 = opsR oTape_init g ∧ (s1.length : Int) = 151) := by
  have h0 := hO.1
  have hO0 := hO
  refine gTri.of (by decide +kernel) rfl ?_
  show gWP f_Tape_init _ _ _ 0 [(2, 149)] [] sh g _
  refine gw_aload_n (gc k_Tape_init_0 0 rfl) rfl rfl ?_
  refine gw_objInit (gc k_Tape_init_0 1 rfl) ln_Tape_3 wd_oins wd_ocode (by omega) rfl rfl ?_
  refine gw_aload_n (gc k_Tape_init_0 2 rfl) rfl rfl ?_
  refine gw_sipush (gc k_Tape_init_0 3 rfl) (by decide) ?_
  refine gw_nI (A := 150) (N := 400) (by omega) (gc k_Tape_init_0 4 rfl) wd_aint (by omega) rfl (by omega) (fun z8 l8 => ?_)
  refine gw_putAK 0 rfl (gc k_Tape_init_0 5 rfl) fl_Tape_9 (hO0.app _) (Or.inr ⟨rfl, rfl⟩) (Or.inr ⟨_, rfl⟩) ?_
  refine gw_return (gc k_Tape_init_0 6 rfl) rfl ?_
  exact ⟨rfl, by simp [sTape_init, sBoard_init, sMachine_init, sTrail_init, sJudge_init, sSheet_init, sClerk_init, sPaper_init, sDraws_init], rfl, by omega⟩
def sText_init : gS := [(13, 12)] ++ [(13, 12)] ++ [(13, 37)] ++ [(13, 400)] ++ [(13, 400)]
def oText_init : List Cop := (cUp 152 7 157 :: (cFr 157 0 :: (cUp 152 6 156 :: (cFr 156 0 :: (cUp 152 5 155 :: (cFr 155 0 :: (cUp 152 4 154 :: (cFr 154 0 :: (cUp 152 3 153 :: (cFr 153 0 :: []))))))))))
set_option maxHeartbeats 4000000 in
theorem c_Text_init {sh : gS} {g : gM} (hS : (sh.length : Int) = 152 + 1) (hO : gsz sh 152 10 8) : gTri f_Text_init 1 5 861 [(2, 152)] sh g (fun x s1 g1 => x = none ∧ s1 = sh ++ sText_init ∧ g1 = opsR oText_init g ∧ (s1.length : Int) = 158) := by
  have h0 := hO.1
  have hO0 := hO
  refine gTri.of (by decide +kernel) rfl ?_
  show gWP f_Text_init _ _ _ 0 [(2, 152)] [] sh g _
  refine gw_aload_n (gc k_Text_init_0 0 rfl) rfl rfl ?_
  refine gw_objInit (gc k_Text_init_0 1 rfl) ln_Text_3 wd_oins wd_ocode (by omega) rfl rfl ?_
  refine gw_aload_n (gc k_Text_init_0 2 rfl) rfl rfl ?_
  refine gw_bipush (gc k_Text_init_0 3 rfl) (by decide) ?_
  refine gw_nI (A := 153) (N := 12) (by omega) (gc k_Text_init_0 4 rfl) wd_aint (by omega) rfl (by omega) (fun z7 l7 => ?_)
  refine gw_putAK 3 rfl (gc k_Text_init_0 5 rfl) fl_Text_9 (hO0.app _) (Or.inr ⟨rfl, rfl⟩) (Or.inr ⟨_, rfl⟩) ?_
  refine gw_aload_n (gc k_Text_init_0 6 rfl) rfl rfl ?_
  refine gw_bipush (gc k_Text_init_0 7 rfl) (by decide) ?_
  refine gw_nI (A := 154) (N := 12) (by omega) (gc k_Text_init_0 8 rfl) wd_aint (by omega) rfl (by omega) (fun z15 l15 => ?_)
  refine gw_putAK 4 rfl (gc k_Text_init_0 9 rfl) fl_Text_15 ((hO0.app _).app _) (Or.inr ⟨rfl, rfl⟩) (Or.inr ⟨_, rfl⟩) ?_
  refine gw_aload_n (gc k_Text_init_0 10 rfl) rfl rfl ?_
  refine gw_bipush (gc k_Text_init_0 11 rfl) (by decide) ?_
  refine gw_nI (A := 155) (N := 37) (by omega) (gc k_Text_init_0 12 rfl) wd_aint (by omega) rfl (by omega) (fun z23 l23 => ?_)
  refine gw_putAK 5 rfl (gc k_Text_init_0 13 rfl) fl_Text_18 (((hO0.app _).app _).app _) (Or.inr ⟨rfl, rfl⟩) (Or.inr ⟨_, rfl⟩) ?_
  refine gw_aload_n (gc k_Text_init_0 14 rfl) rfl rfl ?_
  refine gw_sipush (gc k_Text_init_0 15 rfl) (by decide) ?_
  refine gw_nI (A := 156) (N := 400) (by omega) (gc k_Text_init_0 16 rfl) wd_aint (by omega) rfl (by omega) (fun z32 l32 => ?_)
  refine gw_putAK 6 rfl (gc k_Text_init_0 17 rfl) fl_Text_21 ((((hO0.app _).app _).app _).app _) (Or.inr ⟨rfl, rfl⟩) (Or.inr ⟨_, rfl⟩) ?_
  refine gw_aload_n (gc k_Text_init_0 18 rfl) rfl rfl ?_
  refine gw_sipush (gc k_Text_init_0 19 rfl) (by decide) ?_
  refine gw_nI (A := 157) (N := 400) (by omega) (gc k_Text_init_0 20 rfl) wd_aint (by omega) rfl (by omega) (fun z41 l41 => ?_)
  refine gw_putAK 7 rfl (gc k_Text_init_0 21 rfl) fl_Text_24 (((((hO0.app _).app _).app _).app _).app _) (Or.inr ⟨rfl, rfl⟩) (Or.inr ⟨_, rfl⟩) ?_
  refine gw_return (gc k_Text_init_0 22 rfl) rfl ?_
  exact ⟨rfl, by simp [sText_init, sBoard_init, sMachine_init, sTrail_init, sJudge_init, sSheet_init, sClerk_init, sPaper_init, sDraws_init, sTape_init], rfl, by omega⟩
def sReader_init : gS := [(10, 8)] ++ sText_init ++ [(13, 400)]
def oReader_init : List Cop := (cUp 151 1 158 :: (cFr 158 0 :: (cUp 151 0 152 :: (oText_init ++ (cNw 152 10 :: [])))))
set_option maxHeartbeats 4000000 in
theorem c_Reader_init {sh : gS} {g : gM} (hS : (sh.length : Int) = 151 + 1) (hO : gsz sh 151 7 9) : gTri f_Reader_init 2 7 1269 [(2, 151)] sh g (fun x s1 g1 => x = none ∧ s1 = sh ++ sReader_init ∧ g1 = opsR oReader_init g ∧ (s1.length : Int) = 159) := by
  have h0 := hO.1
  have hO0 := hO
  refine gTri.of (by decide +kernel) rfl ?_
  show gWP f_Reader_init _ _ _ 0 [(2, 151)] [] sh g _
  refine gw_aload_n (gc k_Reader_init_0 0 rfl) rfl rfl ?_
  refine gw_objInit (gc k_Reader_init_0 1 rfl) ln_Reader_3 wd_oins wd_ocode (by omega) rfl rfl ?_
  refine gw_aload_n (gc k_Reader_init_0 2 rfl) rfl rfl ?_
  refine gw_nO (A := 152) (by omega) (gc k_Reader_init_0 3 rfl) nw_Reader_9 (by omega) (fun z5 l5 => ?_)
  refine gw_dup (gc k_Reader_init_0 4 rfl) rfl ?_
  refine gw_callI (gc k_Reader_init_0 5 rfl) y_Text_init ln_Reader_11 (c_Text_init l5 z5) rfl rfl (by omega) rfl rfl ⟨by omega, by omega⟩ (fun r9 sh2 g9 hq9 => ?_)
  obtain ⟨rfl, rfl, rfl, l9⟩ := hq9
  refine gw_putAK 0 rfl (gc k_Reader_init_0 6 rfl) fl_Reader_12 ((hO0.app _).app _) (Or.inr ⟨rfl, rfl⟩) (Or.inl ⟨_, rfl⟩) ?_
  refine gw_aload_n (gc k_Reader_init_0 7 rfl) rfl rfl ?_
  refine gw_sipush (gc k_Reader_init_0 8 rfl) (by decide) ?_
  refine gw_nI (A := 158) (N := 400) (by omega) (gc k_Reader_init_0 9 rfl) wd_aint (by omega) rfl (by omega) (fun z19 l19 => ?_)
  refine gw_putAK 1 rfl (gc k_Reader_init_0 10 rfl) fl_Reader_18 (((hO0.app _).app _).app _) (Or.inr ⟨rfl, rfl⟩) (Or.inr ⟨_, rfl⟩) ?_
  refine gw_return (gc k_Reader_init_0 11 rfl) rfl ?_
  exact ⟨rfl, by simp [sReader_init, sBoard_init, sMachine_init, sTrail_init, sJudge_init, sSheet_init, sClerk_init, sPaper_init, sDraws_init, sTape_init, sText_init], rfl, by omega⟩
def oD_1 : List Cop := oBoard_init 1 ++ (cNw 1 1 :: [])
def oD_2 : List Cop := oJudge_init ++ (cNw 8 4 :: (cUp 0 0 1 :: oD_1))
def oD_3 : List Cop := oClerk_init ++ (cNw 12 2 :: (cUp 0 1 8 :: oD_2))
def oD_4 : List Cop := oPaper_init ++ (cNw 31 6 :: (cUp 0 2 12 :: oD_3))
def oD_5 : List Cop := oDraws_init ++ (cNw 141 3 :: (cUp 0 3 31 :: oD_4))
def oD_6 : List Cop := oTape_init ++ (cNw 149 9 :: (cUp 0 4 141 :: oD_5))
def oD_7 : List Cop := oReader_init ++ (cNw 151 7 :: (cUp 0 5 149 :: oD_6))
def oD_8 : List Cop := oBoard_init 160 ++ (cNw 160 1 :: (cUp 0 7 159 :: (cFr 159 (-1) :: (cUp 0 6 151 :: oD_7))))
def oD_9 : List Cop := oBoard_init 167 ++ (cNw 167 1 :: (cUp 159 0 160 :: oD_8))
def sDesk_init : gS := [(1, 10)] ++ sBoard_init ++ [(4, 4)] ++ sJudge_init ++ [(2, 10)] ++ sClerk_init ++ [(6, 13)] ++ sPaper_init ++ [(3, 3)] ++ sDraws_init ++ [(9, 2)] ++ sTape_init ++ [(7, 9)] ++ sReader_init ++ [(18, 2)] ++ [(1, 10)] ++ sBoard_init ++ [(1, 10)] ++ sBoard_init ++ [(14, 2)] ++ [(13, 6)] ++ [(16, 20)]
def oDesk_init : List Cop := (cUp 0 12 (-1) :: (cUp 0 10 176 :: (cFr 176 0 :: (cUp 0 9 175 :: (cFr 175 0 :: (cUp 0 8 174 :: (cFr 174 0 :: (cUp 159 1 167 :: oD_9))))))))
set_option maxHeartbeats 4000000 in
theorem c_Desk_init {sh : gS} {g : gM} (hS : (sh.length : Int) = 0 + 1) (hO : gsz sh 0 0 14) : gTri f_Desk_init 3 176 26221 [(2, 0)] sh g (fun x s1 g1 => x = none ∧ s1 = sh ++ [(1, 10)] ++ sBoard_init ++ [(4, 4)] ++ sJudge_init ++ [(2, 10)] ++ sClerk_init ++ [(6, 13)] ++ sPaper_init ++ [(3, 3)] ++ sDraws_init ++ [(9, 2)] ++ sTape_init ++ [(7, 9)] ++ sReader_init ++ [(18, 2)] ++ [(1, 10)] ++ sBoard_init ++ [(1, 10)] ++ sBoard_init ++ [(14, 2)] ++ [(13, 6)] ++ [(16, 20)] ∧ g1 = opsR oDesk_init g ∧ (s1.length : Int) = 177) := by
  have h0 := hO.1
  have hO0 := hO
  refine gTri.of (by decide +kernel) rfl ?_
  show gWP f_Desk_init _ _ _ 0 [(2, 0), (9, 0)] [] sh (opsR [] g) _
  refine gw_aload_n (gc k_Desk_init_0 0 rfl) rfl rfl ?_
  refine gw_objInit (gc k_Desk_init_0 1 rfl) ln_Desk_3 wd_oins wd_ocode (by omega) rfl rfl ?_
  refine gw_aload_n (gc k_Desk_init_0 2 rfl) rfl rfl ?_
  refine gp_nO (A := 1) (by omega) (gc k_Desk_init_0 3 rfl) nw_Desk_9 (by omega) (fun z5 l5 => ?_)
  refine gw_dup (gc k_Desk_init_0 4 rfl) rfl ?_
  refine gw_callI (gc k_Desk_init_0 5 rfl) y_Board_init ln_Desk_11 (c_Board_init l5 z5) rfl rfl (by omega) rfl rfl ⟨by omega, by omega⟩ (fun r9 sh2 g9 hq9 => ?_)
  obtain ⟨rfl, rfl, rfl, l9⟩ := hq9
  refine gWP.mem (g2 := opsR oD_1 g) (opsR_app _ _ _).symm ?_
  refine gp_putAK 0 rfl (gc k_Desk_init_0 6 rfl) fl_Desk_12 ((hO0.app _).app _) (Or.inr ⟨rfl, rfl⟩) (Or.inl ⟨_, rfl⟩) ?_
  refine gw_aload_n (gc k_Desk_init_0 7 rfl) rfl rfl ?_
  refine gp_nO (A := 8) (by omega) (gc k_Desk_init_0 8 rfl) nw_Desk_16 (by omega) (fun z16 l16 => ?_)
  refine gw_dup (gc k_Desk_init_0 9 rfl) rfl ?_
  refine gw_callIN (gc k_Desk_init_0 10 rfl) y_Judge_init ln_Desk_18 (c_Judge_init l16 z16) rfl rfl (by omega) rfl rfl ⟨by omega, by omega⟩ (fun r20 sh2 g20 hq20 => ?_)
  obtain ⟨rfl, rfl, rfl, l20⟩ := hq20
  refine gWP.mem (g2 := opsR oD_2 g) (opsR_app _ _ _).symm ?_
  refine gp_putAK 1 rfl (gc k_Desk_init_0 11 rfl) fl_Desk_19 ((((hO0.app _).app _).app _).app _) (Or.inr ⟨rfl, rfl⟩) (Or.inl ⟨_, rfl⟩) ?_
  refine gw_aload_n (gc k_Desk_init_0 12 rfl) rfl rfl ?_
  refine gp_nO (A := 12) (by omega) (gc k_Desk_init_0 13 rfl) nw_Desk_23 (by omega) (fun z27 l27 => ?_)
  refine gw_dup (gc k_Desk_init_0 14 rfl) rfl ?_
  refine gw_aload_n (gc k_Desk_init_0 15 rfl) rfl rfl ?_
  refine gw_getf 0 rfl (gc k_Desk_init_0 16 rfl) fl_Desk_12 (((((hO0.app _).app _).app _).app _).app _) ?_
  refine gWP.top (w := 1) (opsV_ok (by decide +kernel)) ?_
  refine gw_aload_n (gc k_Desk_init_0 17 rfl) rfl rfl ?_
  refine gw_getf 1 rfl (gc k_Desk_init_0 18 rfl) fl_Desk_19 (((((hO0.app _).app _).app _).app _).app _) ?_
  refine gWP.top (w := 8) (opsV_ok (by decide +kernel)) ?_
  refine gw_callI (gc k_Desk_init_0 19 rfl) y_Clerk_init ln_Desk_25 (c_Clerk_init l27 z27) rfl rfl (by omega) rfl rfl ⟨by omega, by omega⟩ (fun r39 sh2 g39 hq39 => ?_)
  obtain ⟨rfl, rfl, rfl, l39⟩ := hq39
  refine gWP.mem (g2 := opsR oD_3 g) (opsR_app _ _ _).symm ?_
  refine gp_putAK 2 rfl (gc k_Desk_init_0 20 rfl) fl_Desk_28 ((((((hO0.app _).app _).app _).app _).app _).app _) (Or.inr ⟨rfl, rfl⟩) (Or.inl ⟨_, rfl⟩) ?_
  refine gw_aload_n (gc k_Desk_init_0 21 rfl) rfl rfl ?_
  refine gp_nO (A := 31) (by omega) (gc k_Desk_init_0 22 rfl) nw_Desk_32 (by omega) (fun z46 l46 => ?_)
  refine gw_dup (gc k_Desk_init_0 23 rfl) rfl ?_
  refine gw_aload_n (gc k_Desk_init_0 24 rfl) rfl rfl ?_
  refine gw_getf 1 rfl (gc k_Desk_init_0 25 rfl) fl_Desk_19 (((((((hO0.app _).app _).app _).app _).app _).app _).app _) ?_
  refine gWP.top (w := 8) (opsV_ok (by decide +kernel)) ?_
  refine gw_callI (gc k_Desk_init_0 26 rfl) y_Paper_init ln_Desk_34 (c_Paper_init l46 z46) rfl rfl (by omega) rfl rfl ⟨by omega, by omega⟩ (fun r54 sh2 g54 hq54 => ?_)
  obtain ⟨rfl, rfl, rfl, l54⟩ := hq54
  refine gWP.mem (g2 := opsR oD_4 g) (opsR_app _ _ _).symm ?_
  refine gp_putAK 3 rfl (gc k_Desk_init_0 27 rfl) fl_Desk_37 ((((((((hO0.app _).app _).app _).app _).app _).app _).app _).app _) (Or.inr ⟨rfl, rfl⟩) (Or.inl ⟨_, rfl⟩) ?_
  refine gw_aload_n (gc k_Desk_init_0 28 rfl) rfl rfl ?_
  refine gp_nO (A := 141) (by omega) (gc k_Desk_init_0 29 rfl) nw_Desk_41 (by omega) (fun z61 l61 => ?_)
  refine gw_dup (gc k_Desk_init_0 30 rfl) rfl ?_
  refine gw_callIN (gc k_Desk_init_0 31 rfl) y_Draws_init ln_Desk_43 (c_Draws_init l61 z61) rfl rfl (by omega) rfl rfl ⟨by omega, by omega⟩ (fun r65 sh2 g65 hq65 => ?_)
  obtain ⟨rfl, rfl, rfl, l65⟩ := hq65
  refine gWP.mem (g2 := opsR oD_5 g) (opsR_app _ _ _).symm ?_
  refine gp_putAK 4 rfl (gc k_Desk_init_0 32 rfl) fl_Desk_44 ((((((((((hO0.app _).app _).app _).app _).app _).app _).app _).app _).app _).app _) (Or.inr ⟨rfl, rfl⟩) (Or.inl ⟨_, rfl⟩) ?_
  refine gw_aload_n (gc k_Desk_init_0 33 rfl) rfl rfl ?_
  refine gp_nO (A := 149) (by omega) (gc k_Desk_init_0 34 rfl) nw_Desk_48 (by omega) (fun z72 l72 => ?_)
  refine gw_dup (gc k_Desk_init_0 35 rfl) rfl ?_
  refine gw_callIN (gc k_Desk_init_0 36 rfl) y_Tape_init ln_Desk_50 (c_Tape_init l72 z72) rfl rfl (by omega) rfl rfl ⟨by omega, by omega⟩ (fun r76 sh2 g76 hq76 => ?_)
  obtain ⟨rfl, rfl, rfl, l76⟩ := hq76
  refine gWP.mem (g2 := opsR oD_6 g) (opsR_app _ _ _).symm ?_
  refine gp_putAK 5 rfl (gc k_Desk_init_0 37 rfl) fl_Desk_51 ((((((((((((hO0.app _).app _).app _).app _).app _).app _).app _).app _).app _).app _).app _).app _) (Or.inr ⟨rfl, rfl⟩) (Or.inl ⟨_, rfl⟩) ?_
  refine gw_aload_n (gc k_Desk_init_0 38 rfl) rfl rfl ?_
  refine gp_nO (A := 151) (by omega) (gc k_Desk_init_0 39 rfl) nw_Desk_55 (by omega) (fun z83 l83 => ?_)
  refine gw_dup (gc k_Desk_init_1 0 rfl) rfl ?_
  refine gw_callIN (gc k_Desk_init_1 1 rfl) y_Reader_init ln_Desk_57 (c_Reader_init l83 z83) rfl rfl (by omega) rfl rfl ⟨by omega, by omega⟩ (fun r87 sh2 g87 hq87 => ?_)
  obtain ⟨rfl, rfl, rfl, l87⟩ := hq87
  refine gWP.mem (g2 := opsR oD_7 g) (opsR_app _ _ _).symm ?_
  refine gp_putAK 6 rfl (gc k_Desk_init_1 2 rfl) fl_Desk_58 ((((((((((((((hO0.app _).app _).app _).app _).app _).app _).app _).app _).app _).app _).app _).app _).app _).app _) (Or.inr ⟨rfl, rfl⟩) (Or.inl ⟨_, rfl⟩) ?_
  refine gw_aload_n (gc k_Desk_init_1 3 rfl) rfl rfl ?_
  refine gw_iconst (gc k_Desk_init_1 4 rfl) ?_
  refine gp_nD (A := 159) (N := 2) (by omega) (gc k_Desk_init_1 5 rfl) cl_Desk_9 (by omega) rfl (by omega) (fun z95 l95 => ?_)
  refine gp_putAK 7 rfl (gc k_Desk_init_1 6 rfl) fl_Desk_62 (((((((((((((((hO0.app _).app _).app _).app _).app _).app _).app _).app _).app _).app _).app _).app _).app _).app _).app _) (Or.inr ⟨rfl, rfl⟩) (Or.inr ⟨_, rfl⟩) ?_
  refine gw_iconst (gc k_Desk_init_1 7 rfl) ?_
  refine gw_istore_1 (gc k_Desk_init_1 8 rfl) rfl rfl ?_
  refine gw_iload_n (gc k_Desk_init_1 9 rfl) rfl ?_
  refine gw_iconst (gc k_Desk_init_1 10 rfl) ?_
  refine gw_icmp_ge (tgt := 127) (gc k_Desk_init_1 11 rfl) rfl (by omega) (fun c105 => ?_) (fun c105 => ?_)
  · exfalso; omega
  · refine gw_aload_n (gc k_Desk_init_1 12 rfl) rfl rfl ?_
    refine gw_getf 7 rfl (gc k_Desk_init_1 13 rfl) fl_Desk_62 (((((((((((((((hO0.app _).app _).app _).app _).app _).app _).app _).app _).app _).app _).app _).app _).app _).app _).app _) ?_
    refine gWP.top (w := 159) (opsV_ok (by decide +kernel)) ?_
    refine gw_iload_n (gc k_Desk_init_1 14 rfl) rfl ?_
    refine gp_nO (A := 160) (by omega) (gc k_Desk_init_1 15 rfl) nw_Desk_9 (by omega) (fun z113 l113 => ?_)
    refine gw_dup (gc k_Desk_init_1 16 rfl) rfl ?_
    refine gw_callI (gc k_Desk_init_1 17 rfl) y_Board_init ln_Desk_11 (c_Board_init l113 z113) rfl rfl (by omega) rfl rfl ⟨by omega, by omega⟩ (fun r117 sh2 g117 hq117 => ?_)
    obtain ⟨rfl, rfl, rfl, l117⟩ := hq117
    refine gWP.mem (g2 := opsR oD_8 g) (opsR_app _ _ _).symm ?_
    refine gp_aast_Board (gc k_Desk_init_1 18 rfl) ((z95.app _).app _) (by omega) (Or.inr (z113.app _)) ?_
    refine gw_iinc_1 (gc k_Desk_init_1 19 rfl) rfl rfl ?_
    refine gw_goto (tgt := 103) (gc k_Desk_init_1 20 rfl) rfl ?_
    refine gw_iload_n (gc k_Desk_init_1 9 rfl) rfl ?_
    refine gw_iconst (gc k_Desk_init_1 10 rfl) ?_
    refine gw_icmp_ge (tgt := 127) (gc k_Desk_init_1 11 rfl) rfl (by omega) (fun c105 => ?_) (fun c105 => ?_)
    · exfalso; omega
    · refine gw_aload_n (gc k_Desk_init_1 12 rfl) rfl rfl ?_
      refine gw_getf 7 rfl (gc k_Desk_init_1 13 rfl) fl_Desk_62 (((((((((((((((((hO0.app _).app _).app _).app _).app _).app _).app _).app _).app _).app _).app _).app _).app _).app _).app _).app _).app _) ?_
      refine gWP.top (w := 159) (opsV_ok (by decide +kernel)) ?_
      refine gw_iload_n (gc k_Desk_init_1 14 rfl) rfl ?_
      refine gp_nO (A := 167) (by omega) (gc k_Desk_init_1 15 rfl) nw_Desk_9 (by omega) (fun z113 l113 => ?_)
      refine gw_dup (gc k_Desk_init_1 16 rfl) rfl ?_
      refine gw_callI (gc k_Desk_init_1 17 rfl) y_Board_init ln_Desk_11 (c_Board_init l113 z113) rfl rfl (by omega) rfl rfl ⟨by omega, by omega⟩ (fun r117 sh2 g117 hq117 => ?_)
      obtain ⟨rfl, rfl, rfl, l117⟩ := hq117
      refine gWP.mem (g2 := opsR oD_9 g) (opsR_app _ _ _).symm ?_
      refine gp_aast_Board (gc k_Desk_init_1 18 rfl) ((((z95.app _).app _).app _).app _) (by omega) (Or.inr (z113.app _)) ?_
      refine gw_iinc_1 (gc k_Desk_init_1 19 rfl) rfl rfl ?_
      refine gw_goto (tgt := 103) (gc k_Desk_init_1 20 rfl) rfl ?_
      refine gw_iload_n (gc k_Desk_init_1 9 rfl) rfl ?_
      refine gw_iconst (gc k_Desk_init_1 10 rfl) ?_
      refine gw_icmp_ge (tgt := 127) (gc k_Desk_init_1 11 rfl) rfl (by omega) (fun c105 => ?_) (fun c105 => ?_)
      · refine gw_aload_n (gc k_Desk_init_1 21 rfl) rfl rfl ?_
        refine gw_iconst (gc k_Desk_init_1 22 rfl) ?_
        refine gp_nZ (A := 174) (N := 2) (by omega) (gc k_Desk_init_1 23 rfl) wd_aboolean (by omega) rfl (by omega) (fun z129 l129 => ?_)
        refine gp_putAK 8 rfl (gc k_Desk_init_1 24 rfl) fl_Desk_66 ((((((((((((((((((((hO0.app _).app _).app _).app _).app _).app _).app _).app _).app _).app _).app _).app _).app _).app _).app _).app _).app _).app _).app _).app _) (Or.inr ⟨rfl, rfl⟩) (Or.inr ⟨_, rfl⟩) ?_
        refine gw_aload_n (gc k_Desk_init_1 25 rfl) rfl rfl ?_
        refine gw_bipush (gc k_Desk_init_1 26 rfl) (by decide) ?_
        refine gp_nI (A := 175) (N := 6) (by omega) (gc k_Desk_init_1 27 rfl) wd_aint (by omega) rfl (by omega) (fun z137 l137 => ?_)
        refine gp_putAK 9 rfl (gc k_Desk_init_1 28 rfl) fl_Desk_70 (((((((((((((((((((((hO0.app _).app _).app _).app _).app _).app _).app _).app _).app _).app _).app _).app _).app _).app _).app _).app _).app _).app _).app _).app _).app _) (Or.inr ⟨rfl, rfl⟩) (Or.inr ⟨_, rfl⟩) ?_
        refine gw_aload_n (gc k_Desk_init_1 29 rfl) rfl rfl ?_
        refine gw_bipush (gc k_Desk_init_1 30 rfl) (by decide) ?_
        refine gp_nL (A := 176) (N := 20) (by omega) (gc k_Desk_init_1 31 rfl) wd_along (by omega) rfl (by omega) (fun z145 l145 => ?_)
        refine gp_putAK 10 rfl (gc k_Desk_init_1 32 rfl) fl_Desk_74 ((((((((((((((((((((((hO0.app _).app _).app _).app _).app _).app _).app _).app _).app _).app _).app _).app _).app _).app _).app _).app _).app _).app _).app _).app _).app _).app _) (Or.inr ⟨rfl, rfl⟩) (Or.inr ⟨_, rfl⟩) ?_
        refine gw_aload_n (gc k_Desk_init_1 33 rfl) rfl rfl ?_
        refine gw_iconst (gc k_Desk_init_1 34 rfl) ?_
        refine gp_putIC 12 rfl (gc k_Desk_init_1 35 rfl) fl_Desk_78 ((((((((((((((((((((((hO0.app _).app _).app _).app _).app _).app _).app _).app _).app _).app _).app _).app _).app _).app _).app _).app _).app _).app _).app _).app _).app _).app _) (by first | exact Or.inl rfl | exact Or.inr ⟨rfl, rfl⟩) ?_
        refine gw_return (gc k_Desk_init_1 36 rfl) rfl ?_
        exact ⟨rfl, by rfl, rfl, by omega⟩
      · exfalso; omega
def sMA : gS := [(13, 7)] ++ [(13, 5652)] ++ [(13, 11304)] ++ [(14, 2)] ++ [(13, 50)] ++ [(15, 137)]
def sMC : gS := [(15, 400)] ++ [(13, 5)] ++ [(13, 401)] ++ [(13, 401)] ++ [(13, 401)] ++ [(13, 10)] ++ [(13, 416)] ++ [(13, 416)] ++ [(13, 7500)] ++ [(13, 7500)] ++ [(14, 7500)] ++ [(13, 300)] ++ [(16, 300)] ++ [(13, 48)] ++ [(16, 21)] ++ [(16, 2)] ++ [(13, 25)]
def cMA : List Cop := [cFr 183 0, cUp 177 5 182, cFr 182 0, cUp 177 4 181, cFr 181 0, cUp 177 3 180, cFr 180 0, cUp 177 2 179, cFr 179 0, cUp 177 1 178, cFr 178 0]
def cMC : List Cop := [cUp 177 49 (-1), cUp 177 48 200, cFr 200 0, cUp 177 47 199, cFr 199 0, cUp 177 41 (-1), cUp 177 40 198, cFr 198 0, cUp 177 39 197, cFr 197 0, cUp 177 38 196, cFr 196 0, cUp 177 37 195, cFr 195 0, cUp 177 36 194, cFr 194 0, cUp 177 35 193, cFr 193 0, cUp 177 34 192, cFr 192 0, cUp 177 32 191, cFr 191 0, cUp 177 31 190, cFr 190 0, cUp 177 26 189, cFr 189 0, cUp 177 17 188, cFr 188 0, cUp 177 16 187, cFr 187 0, cUp 177 15 186, cFr 186 0, cUp 177 14 (-1), cUp 177 12 185, cFr 185 0, cUp 177 11 184, cFr 184 0]
set_option maxHeartbeats 4000000 in
theorem mwA {sh : gS} {g : gM} {mc ms : Nat} {Q : gQ} (hS : (sh.length : Int) = 177 + 1) (hO : gsz sh 177 12 51) (hm : 23 ≤ mc ∧ 42798 ≤ ms) (kk : ∀ (s2 : gS) (mc2 ms2 : Nat), s2 = sh ++ sMA → (s2.length : Int) = 184 → gsz s2 183 15 137 → gsz s2 177 12 51 → gsz s2 179 13 5652 → 17 ≤ mc2 ∧ 25646 ≤ ms2 → gWP f_Model_init 1 mc2 ms2 51 [(2, 177)] [(2, 183), (2, 177)] s2 (opsR cMA g) Q) : gWP f_Model_init 1 mc ms 0 [(2, 177)] [] sh g Q := by
  show gWP f_Model_init _ _ _ 0 [(2, 177)] [] sh g _
  refine gw_aload_n (gc k_Model_init_0 0 rfl) rfl rfl ?_
  refine gw_objInit (gc k_Model_init_0 1 rfl) ln_Model_22 wd_oins wd_ocode (by omega) rfl rfl ?_
  refine gw_aload_n (gc k_Model_init_0 2 rfl) rfl rfl ?_
  refine gw_bipush (gc k_Model_init_0 3 rfl) (by decide) ?_
  refine gw_nI (A := 178) (N := 7) (by omega) (gc k_Model_init_0 4 rfl) wd_aint (by omega) rfl (by omega) (fun z7 l7 => ?_)
  refine gw_putAK 1 rfl (gc k_Model_init_0 5 rfl) fl_Model_7 (hO.app _) (Or.inr ⟨rfl, rfl⟩) (Or.inr ⟨_, rfl⟩) ?_
  refine gw_aload_n (gc k_Model_init_0 6 rfl) rfl rfl ?_
  refine gw_sipush (gc k_Model_init_0 7 rfl) (by decide) ?_
  refine gw_nI (A := 179) (N := 5652) (by omega) (gc k_Model_init_0 8 rfl) wd_aint (by omega) rfl (by omega) (fun z16 l16 => ?_)
  refine gw_putAK 2 rfl (gc k_Model_init_0 9 rfl) fl_Model_28 ((hO.app _).app _) (Or.inr ⟨rfl, rfl⟩) (Or.inr ⟨_, rfl⟩) ?_
  refine gw_aload_n (gc k_Model_init_0 10 rfl) rfl rfl ?_
  refine gw_sipush (gc k_Model_init_0 11 rfl) (by decide) ?_
  refine gw_nI (A := 180) (N := 11304) (by omega) (gc k_Model_init_0 12 rfl) wd_aint (by omega) rfl (by omega) (fun z25 l25 => ?_)
  refine gw_putAK 3 rfl (gc k_Model_init_0 13 rfl) fl_Model_31 (((hO.app _).app _).app _) (Or.inr ⟨rfl, rfl⟩) (Or.inr ⟨_, rfl⟩) ?_
  refine gw_aload_n (gc k_Model_init_0 14 rfl) rfl rfl ?_
  refine gw_iconst (gc k_Model_init_0 15 rfl) ?_
  refine gw_nZ (A := 181) (N := 2) (by omega) (gc k_Model_init_0 16 rfl) wd_aboolean (by omega) rfl (by omega) (fun z32 l32 => ?_)
  refine gw_putAK 4 rfl (gc k_Model_init_0 17 rfl) fl_Model_34 ((((hO.app _).app _).app _).app _) (Or.inr ⟨rfl, rfl⟩) (Or.inr ⟨_, rfl⟩) ?_
  refine gw_aload_n (gc k_Model_init_0 18 rfl) rfl rfl ?_
  refine gw_bipush (gc k_Model_init_0 19 rfl) (by decide) ?_
  refine gw_nI (A := 182) (N := 50) (by omega) (gc k_Model_init_0 20 rfl) wd_aint (by omega) rfl (by omega) (fun z40 l40 => ?_)
  refine gw_putAK 5 rfl (gc k_Model_init_0 21 rfl) fl_Model_38 (((((hO.app _).app _).app _).app _).app _) (Or.inr ⟨rfl, rfl⟩) (Or.inr ⟨_, rfl⟩) ?_
  refine gw_aload_n (gc k_Model_init_0 22 rfl) rfl rfl ?_
  refine gw_sipush (gc k_Model_init_0 23 rfl) (by decide) ?_
  refine gw_nB (A := 183) (N := 137) (by omega) (gc k_Model_init_0 24 rfl) wd_abyte (by omega) rfl (by omega) (fun z49 l49 => ?_)
  exact kk _ _ _ (by simp [sMA]) (by omega) z49 ((((((hO.app _).app _).app _).app _).app _).app _) ((((z16.app _).app _).app _).app _) (by omega)
def cMB0 : List Cop := [cUp 183 19 32, cUp 183 18 102, cUp 183 17 105, cUp 183 16 32, cUp 183 15 115, cUp 183 14 114, cUp 183 13 97, cUp 183 12 98, cUp 183 11 32, cUp 183 10 115, cUp 183 9 110, cUp 183 8 114, cUp 183 7 97, cUp 183 6 101, cUp 183 5 32, cUp 183 4 115, cUp 183 3 116, cUp 183 2 115, cUp 183 1 111, cUp 183 0 99]
set_option maxHeartbeats 4000000 in
theorem mwB0 {sh : gS} {g : gM} {mc ms : Nat} {Q : gQ} (hW : gsz sh 183 15 137) (kk : gWP f_Model_init 1 mc ms 165 [(2, 177)] [(2, 183), (2, 177)] sh (opsR cMB0 g) Q) : gWP f_Model_init 1 mc ms 51 [(2, 177)] [(2, 183), (2, 177)] sh g Q := by
  show gWP f_Model_init _ _ _ 51 [(2, 177)] [(2, 183), (2, 177)] sh g _
  refine gw_dup (gc k_Model_init_0 25 rfl) rfl ?_
  refine gw_iconst (gc k_Model_init_0 26 rfl) ?_
  refine gw_bipush (gc k_Model_init_0 27 rfl) (by decide) ?_
  refine gw_bast (gc k_Model_init_0 28 rfl) hW (by omega) (by omega) ?_
  refine gw_dup (gc k_Model_init_0 29 rfl) rfl ?_
  refine gw_iconst (gc k_Model_init_0 30 rfl) ?_
  refine gw_bipush (gc k_Model_init_0 31 rfl) (by decide) ?_
  refine gw_bast (gc k_Model_init_0 32 rfl) hW (by omega) (by omega) ?_
  refine gw_dup (gc k_Model_init_0 33 rfl) rfl ?_
  refine gw_iconst (gc k_Model_init_0 34 rfl) ?_
  refine gw_bipush (gc k_Model_init_0 35 rfl) (by decide) ?_
  refine gw_bast (gc k_Model_init_0 36 rfl) hW (by omega) (by omega) ?_
  refine gw_dup (gc k_Model_init_0 37 rfl) rfl ?_
  refine gw_iconst (gc k_Model_init_0 38 rfl) ?_
  refine gw_bipush (gc k_Model_init_0 39 rfl) (by decide) ?_
  refine gw_bast (gc k_Model_init_1 0 rfl) hW (by omega) (by omega) ?_
  refine gw_dup (gc k_Model_init_1 1 rfl) rfl ?_
  refine gw_iconst (gc k_Model_init_1 2 rfl) ?_
  refine gw_bipush (gc k_Model_init_1 3 rfl) (by decide) ?_
  refine gw_bast (gc k_Model_init_1 4 rfl) hW (by omega) (by omega) ?_
  refine gw_dup (gc k_Model_init_1 5 rfl) rfl ?_
  refine gw_iconst (gc k_Model_init_1 6 rfl) ?_
  refine gw_bipush (gc k_Model_init_1 7 rfl) (by decide) ?_
  refine gw_bast (gc k_Model_init_1 8 rfl) hW (by omega) (by omega) ?_
  refine gw_dup (gc k_Model_init_1 9 rfl) rfl ?_
  refine gw_bipush (gc k_Model_init_1 10 rfl) (by decide) ?_
  refine gw_bipush (gc k_Model_init_1 11 rfl) (by decide) ?_
  refine gw_bast (gc k_Model_init_1 12 rfl) hW (by omega) (by omega) ?_
  refine gw_dup (gc k_Model_init_1 13 rfl) rfl ?_
  refine gw_bipush (gc k_Model_init_1 14 rfl) (by decide) ?_
  refine gw_bipush (gc k_Model_init_1 15 rfl) (by decide) ?_
  refine gw_bast (gc k_Model_init_1 16 rfl) hW (by omega) (by omega) ?_
  refine gw_dup (gc k_Model_init_1 17 rfl) rfl ?_
  refine gw_bipush (gc k_Model_init_1 18 rfl) (by decide) ?_
  refine gw_bipush (gc k_Model_init_1 19 rfl) (by decide) ?_
  refine gw_bast (gc k_Model_init_1 20 rfl) hW (by omega) (by omega) ?_
  refine gw_dup (gc k_Model_init_1 21 rfl) rfl ?_
  refine gw_bipush (gc k_Model_init_1 22 rfl) (by decide) ?_
  refine gw_bipush (gc k_Model_init_1 23 rfl) (by decide) ?_
  refine gw_bast (gc k_Model_init_1 24 rfl) hW (by omega) (by omega) ?_
  refine gw_dup (gc k_Model_init_1 25 rfl) rfl ?_
  refine gw_bipush (gc k_Model_init_1 26 rfl) (by decide) ?_
  refine gw_bipush (gc k_Model_init_1 27 rfl) (by decide) ?_
  refine gw_bast (gc k_Model_init_1 28 rfl) hW (by omega) (by omega) ?_
  refine gw_dup (gc k_Model_init_1 29 rfl) rfl ?_
  refine gw_bipush (gc k_Model_init_1 30 rfl) (by decide) ?_
  refine gw_bipush (gc k_Model_init_1 31 rfl) (by decide) ?_
  refine gw_bast (gc k_Model_init_1 32 rfl) hW (by omega) (by omega) ?_
  refine gw_dup (gc k_Model_init_1 33 rfl) rfl ?_
  refine gw_bipush (gc k_Model_init_1 34 rfl) (by decide) ?_
  refine gw_bipush (gc k_Model_init_1 35 rfl) (by decide) ?_
  refine gw_bast (gc k_Model_init_1 36 rfl) hW (by omega) (by omega) ?_
  refine gw_dup (gc k_Model_init_1 37 rfl) rfl ?_
  refine gw_bipush (gc k_Model_init_1 38 rfl) (by decide) ?_
  refine gw_bipush (gc k_Model_init_1 39 rfl) (by decide) ?_
  refine gw_bast (gc k_Model_init_2 0 rfl) hW (by omega) (by omega) ?_
  refine gw_dup (gc k_Model_init_2 1 rfl) rfl ?_
  refine gw_bipush (gc k_Model_init_2 2 rfl) (by decide) ?_
  refine gw_bipush (gc k_Model_init_2 3 rfl) (by decide) ?_
  refine gw_bast (gc k_Model_init_2 4 rfl) hW (by omega) (by omega) ?_
  refine gw_dup (gc k_Model_init_2 5 rfl) rfl ?_
  refine gw_bipush (gc k_Model_init_2 6 rfl) (by decide) ?_
  refine gw_bipush (gc k_Model_init_2 7 rfl) (by decide) ?_
  refine gw_bast (gc k_Model_init_2 8 rfl) hW (by omega) (by omega) ?_
  refine gw_dup (gc k_Model_init_2 9 rfl) rfl ?_
  refine gw_bipush (gc k_Model_init_2 10 rfl) (by decide) ?_
  refine gw_bipush (gc k_Model_init_2 11 rfl) (by decide) ?_
  refine gw_bast (gc k_Model_init_2 12 rfl) hW (by omega) (by omega) ?_
  refine gw_dup (gc k_Model_init_2 13 rfl) rfl ?_
  refine gw_bipush (gc k_Model_init_2 14 rfl) (by decide) ?_
  refine gw_bipush (gc k_Model_init_2 15 rfl) (by decide) ?_
  refine gw_bast (gc k_Model_init_2 16 rfl) hW (by omega) (by omega) ?_
  refine gw_dup (gc k_Model_init_2 17 rfl) rfl ?_
  refine gw_bipush (gc k_Model_init_2 18 rfl) (by decide) ?_
  refine gw_bipush (gc k_Model_init_2 19 rfl) (by decide) ?_
  refine gw_bast (gc k_Model_init_2 20 rfl) hW (by omega) (by omega) ?_
  refine gw_dup (gc k_Model_init_2 21 rfl) rfl ?_
  refine gw_bipush (gc k_Model_init_2 22 rfl) (by decide) ?_
  refine gw_bipush (gc k_Model_init_2 23 rfl) (by decide) ?_
  refine gw_bast (gc k_Model_init_2 24 rfl) hW (by omega) (by omega) ?_
  exact kk
def cMB1 : List Cop := [cUp 183 39 97, cUp 183 38 112, cUp 183 37 97, cUp 183 36 32, cUp 183 35 101, cUp 183 34 99, cUp 183 33 97, cUp 183 32 108, cUp 183 31 112, cUp 183 30 32, cUp 183 29 116, cUp 183 28 111, cUp 183 27 110, cUp 183 26 32, cUp 183 25 100, cUp 183 24 110, cUp 183 23 97, cUp 183 22 32, cUp 183 21 114, cUp 183 20 111]
set_option maxHeartbeats 4000000 in
theorem mwB1 {sh : gS} {g : gM} {mc ms : Nat} {Q : gQ} (hW : gsz sh 183 15 137) (kk : gWP f_Model_init 1 mc ms 285 [(2, 177)] [(2, 183), (2, 177)] sh (opsR cMB1 g) Q) : gWP f_Model_init 1 mc ms 165 [(2, 177)] [(2, 183), (2, 177)] sh g Q := by
  show gWP f_Model_init _ _ _ 165 [(2, 177)] [(2, 183), (2, 177)] sh g _
  refine gw_dup (gc k_Model_init_2 25 rfl) rfl ?_
  refine gw_bipush (gc k_Model_init_2 26 rfl) (by decide) ?_
  refine gw_bipush (gc k_Model_init_2 27 rfl) (by decide) ?_
  refine gw_bast (gc k_Model_init_2 28 rfl) hW (by omega) (by omega) ?_
  refine gw_dup (gc k_Model_init_2 29 rfl) rfl ?_
  refine gw_bipush (gc k_Model_init_2 30 rfl) (by decide) ?_
  refine gw_bipush (gc k_Model_init_2 31 rfl) (by decide) ?_
  refine gw_bast (gc k_Model_init_2 32 rfl) hW (by omega) (by omega) ?_
  refine gw_dup (gc k_Model_init_2 33 rfl) rfl ?_
  refine gw_bipush (gc k_Model_init_2 34 rfl) (by decide) ?_
  refine gw_bipush (gc k_Model_init_2 35 rfl) (by decide) ?_
  refine gw_bast (gc k_Model_init_2 36 rfl) hW (by omega) (by omega) ?_
  refine gw_dup (gc k_Model_init_2 37 rfl) rfl ?_
  refine gw_bipush (gc k_Model_init_2 38 rfl) (by decide) ?_
  refine gw_bipush (gc k_Model_init_2 39 rfl) (by decide) ?_
  refine gw_bast (gc k_Model_init_3 0 rfl) hW (by omega) (by omega) ?_
  refine gw_dup (gc k_Model_init_3 1 rfl) rfl ?_
  refine gw_bipush (gc k_Model_init_3 2 rfl) (by decide) ?_
  refine gw_bipush (gc k_Model_init_3 3 rfl) (by decide) ?_
  refine gw_bast (gc k_Model_init_3 4 rfl) hW (by omega) (by omega) ?_
  refine gw_dup (gc k_Model_init_3 5 rfl) rfl ?_
  refine gw_bipush (gc k_Model_init_3 6 rfl) (by decide) ?_
  refine gw_bipush (gc k_Model_init_3 7 rfl) (by decide) ?_
  refine gw_bast (gc k_Model_init_3 8 rfl) hW (by omega) (by omega) ?_
  refine gw_dup (gc k_Model_init_3 9 rfl) rfl ?_
  refine gw_bipush (gc k_Model_init_3 10 rfl) (by decide) ?_
  refine gw_bipush (gc k_Model_init_3 11 rfl) (by decide) ?_
  refine gw_bast (gc k_Model_init_3 12 rfl) hW (by omega) (by omega) ?_
  refine gw_dup (gc k_Model_init_3 13 rfl) rfl ?_
  refine gw_bipush (gc k_Model_init_3 14 rfl) (by decide) ?_
  refine gw_bipush (gc k_Model_init_3 15 rfl) (by decide) ?_
  refine gw_bast (gc k_Model_init_3 16 rfl) hW (by omega) (by omega) ?_
  refine gw_dup (gc k_Model_init_3 17 rfl) rfl ?_
  refine gw_bipush (gc k_Model_init_3 18 rfl) (by decide) ?_
  refine gw_bipush (gc k_Model_init_3 19 rfl) (by decide) ?_
  refine gw_bast (gc k_Model_init_3 20 rfl) hW (by omega) (by omega) ?_
  refine gw_dup (gc k_Model_init_3 21 rfl) rfl ?_
  refine gw_bipush (gc k_Model_init_3 22 rfl) (by decide) ?_
  refine gw_bipush (gc k_Model_init_3 23 rfl) (by decide) ?_
  refine gw_bast (gc k_Model_init_3 24 rfl) hW (by omega) (by omega) ?_
  refine gw_dup (gc k_Model_init_3 25 rfl) rfl ?_
  refine gw_bipush (gc k_Model_init_3 26 rfl) (by decide) ?_
  refine gw_bipush (gc k_Model_init_3 27 rfl) (by decide) ?_
  refine gw_bast (gc k_Model_init_3 28 rfl) hW (by omega) (by omega) ?_
  refine gw_dup (gc k_Model_init_3 29 rfl) rfl ?_
  refine gw_bipush (gc k_Model_init_3 30 rfl) (by decide) ?_
  refine gw_bipush (gc k_Model_init_3 31 rfl) (by decide) ?_
  refine gw_bast (gc k_Model_init_3 32 rfl) hW (by omega) (by omega) ?_
  refine gw_dup (gc k_Model_init_3 33 rfl) rfl ?_
  refine gw_bipush (gc k_Model_init_3 34 rfl) (by decide) ?_
  refine gw_bipush (gc k_Model_init_3 35 rfl) (by decide) ?_
  refine gw_bast (gc k_Model_init_3 36 rfl) hW (by omega) (by omega) ?_
  refine gw_dup (gc k_Model_init_3 37 rfl) rfl ?_
  refine gw_bipush (gc k_Model_init_3 38 rfl) (by decide) ?_
  refine gw_bipush (gc k_Model_init_3 39 rfl) (by decide) ?_
  refine gw_bast (gc k_Model_init_4 0 rfl) hW (by omega) (by omega) ?_
  refine gw_dup (gc k_Model_init_4 1 rfl) rfl ?_
  refine gw_bipush (gc k_Model_init_4 2 rfl) (by decide) ?_
  refine gw_bipush (gc k_Model_init_4 3 rfl) (by decide) ?_
  refine gw_bast (gc k_Model_init_4 4 rfl) hW (by omega) (by omega) ?_
  refine gw_dup (gc k_Model_init_4 5 rfl) rfl ?_
  refine gw_bipush (gc k_Model_init_4 6 rfl) (by decide) ?_
  refine gw_bipush (gc k_Model_init_4 7 rfl) (by decide) ?_
  refine gw_bast (gc k_Model_init_4 8 rfl) hW (by omega) (by omega) ?_
  refine gw_dup (gc k_Model_init_4 9 rfl) rfl ?_
  refine gw_bipush (gc k_Model_init_4 10 rfl) (by decide) ?_
  refine gw_bipush (gc k_Model_init_4 11 rfl) (by decide) ?_
  refine gw_bast (gc k_Model_init_4 12 rfl) hW (by omega) (by omega) ?_
  refine gw_dup (gc k_Model_init_4 13 rfl) rfl ?_
  refine gw_bipush (gc k_Model_init_4 14 rfl) (by decide) ?_
  refine gw_bipush (gc k_Model_init_4 15 rfl) (by decide) ?_
  refine gw_bast (gc k_Model_init_4 16 rfl) hW (by omega) (by omega) ?_
  refine gw_dup (gc k_Model_init_4 17 rfl) rfl ?_
  refine gw_bipush (gc k_Model_init_4 18 rfl) (by decide) ?_
  refine gw_bipush (gc k_Model_init_4 19 rfl) (by decide) ?_
  refine gw_bast (gc k_Model_init_4 20 rfl) hW (by omega) (by omega) ?_
  refine gw_dup (gc k_Model_init_4 21 rfl) rfl ?_
  refine gw_bipush (gc k_Model_init_4 22 rfl) (by decide) ?_
  refine gw_bipush (gc k_Model_init_4 23 rfl) (by decide) ?_
  refine gw_bast (gc k_Model_init_4 24 rfl) hW (by omega) (by omega) ?_
  exact kk
def cMB2 : List Cop := [cUp 183 59 32, cUp 183 58 115, cUp 183 57 101, cUp 183 56 118, cUp 183 55 111, cUp 183 54 109, cUp 183 53 32, cUp 183 52 112, cUp 183 51 97, cUp 183 50 101, cUp 183 49 108, cUp 183 48 32, cUp 183 47 100, cUp 183 46 97, cUp 183 45 101, cUp 183 44 104, cUp 183 43 97, cUp 183 42 32, cUp 183 41 116, cUp 183 40 114]
set_option maxHeartbeats 4000000 in
theorem mwB2 {sh : gS} {g : gM} {mc ms : Nat} {Q : gQ} (hW : gsz sh 183 15 137) (kk : gWP f_Model_init 1 mc ms 405 [(2, 177)] [(2, 183), (2, 177)] sh (opsR cMB2 g) Q) : gWP f_Model_init 1 mc ms 285 [(2, 177)] [(2, 183), (2, 177)] sh g Q := by
  show gWP f_Model_init _ _ _ 285 [(2, 177)] [(2, 183), (2, 177)] sh g _
  refine gw_dup (gc k_Model_init_4 25 rfl) rfl ?_
  refine gw_bipush (gc k_Model_init_4 26 rfl) (by decide) ?_
  refine gw_bipush (gc k_Model_init_4 27 rfl) (by decide) ?_
  refine gw_bast (gc k_Model_init_4 28 rfl) hW (by omega) (by omega) ?_
  refine gw_dup (gc k_Model_init_4 29 rfl) rfl ?_
  refine gw_bipush (gc k_Model_init_4 30 rfl) (by decide) ?_
  refine gw_bipush (gc k_Model_init_4 31 rfl) (by decide) ?_
  refine gw_bast (gc k_Model_init_4 32 rfl) hW (by omega) (by omega) ?_
  refine gw_dup (gc k_Model_init_4 33 rfl) rfl ?_
  refine gw_bipush (gc k_Model_init_4 34 rfl) (by decide) ?_
  refine gw_bipush (gc k_Model_init_4 35 rfl) (by decide) ?_
  refine gw_bast (gc k_Model_init_4 36 rfl) hW (by omega) (by omega) ?_
  refine gw_dup (gc k_Model_init_4 37 rfl) rfl ?_
  refine gw_bipush (gc k_Model_init_4 38 rfl) (by decide) ?_
  refine gw_bipush (gc k_Model_init_4 39 rfl) (by decide) ?_
  refine gw_bast (gc k_Model_init_5 0 rfl) hW (by omega) (by omega) ?_
  refine gw_dup (gc k_Model_init_5 1 rfl) rfl ?_
  refine gw_bipush (gc k_Model_init_5 2 rfl) (by decide) ?_
  refine gw_bipush (gc k_Model_init_5 3 rfl) (by decide) ?_
  refine gw_bast (gc k_Model_init_5 4 rfl) hW (by omega) (by omega) ?_
  refine gw_dup (gc k_Model_init_5 5 rfl) rfl ?_
  refine gw_bipush (gc k_Model_init_5 6 rfl) (by decide) ?_
  refine gw_bipush (gc k_Model_init_5 7 rfl) (by decide) ?_
  refine gw_bast (gc k_Model_init_5 8 rfl) hW (by omega) (by omega) ?_
  refine gw_dup (gc k_Model_init_5 9 rfl) rfl ?_
  refine gw_bipush (gc k_Model_init_5 10 rfl) (by decide) ?_
  refine gw_bipush (gc k_Model_init_5 11 rfl) (by decide) ?_
  refine gw_bast (gc k_Model_init_5 12 rfl) hW (by omega) (by omega) ?_
  refine gw_dup (gc k_Model_init_5 13 rfl) rfl ?_
  refine gw_bipush (gc k_Model_init_5 14 rfl) (by decide) ?_
  refine gw_bipush (gc k_Model_init_5 15 rfl) (by decide) ?_
  refine gw_bast (gc k_Model_init_5 16 rfl) hW (by omega) (by omega) ?_
  refine gw_dup (gc k_Model_init_5 17 rfl) rfl ?_
  refine gw_bipush (gc k_Model_init_5 18 rfl) (by decide) ?_
  refine gw_bipush (gc k_Model_init_5 19 rfl) (by decide) ?_
  refine gw_bast (gc k_Model_init_5 20 rfl) hW (by omega) (by omega) ?_
  refine gw_dup (gc k_Model_init_5 21 rfl) rfl ?_
  refine gw_bipush (gc k_Model_init_5 22 rfl) (by decide) ?_
  refine gw_bipush (gc k_Model_init_5 23 rfl) (by decide) ?_
  refine gw_bast (gc k_Model_init_5 24 rfl) hW (by omega) (by omega) ?_
  refine gw_dup (gc k_Model_init_5 25 rfl) rfl ?_
  refine gw_bipush (gc k_Model_init_5 26 rfl) (by decide) ?_
  refine gw_bipush (gc k_Model_init_5 27 rfl) (by decide) ?_
  refine gw_bast (gc k_Model_init_5 28 rfl) hW (by omega) (by omega) ?_
  refine gw_dup (gc k_Model_init_5 29 rfl) rfl ?_
  refine gw_bipush (gc k_Model_init_5 30 rfl) (by decide) ?_
  refine gw_bipush (gc k_Model_init_5 31 rfl) (by decide) ?_
  refine gw_bast (gc k_Model_init_5 32 rfl) hW (by omega) (by omega) ?_
  refine gw_dup (gc k_Model_init_5 33 rfl) rfl ?_
  refine gw_bipush (gc k_Model_init_5 34 rfl) (by decide) ?_
  refine gw_bipush (gc k_Model_init_5 35 rfl) (by decide) ?_
  refine gw_bast (gc k_Model_init_5 36 rfl) hW (by omega) (by omega) ?_
  refine gw_dup (gc k_Model_init_5 37 rfl) rfl ?_
  refine gw_bipush (gc k_Model_init_5 38 rfl) (by decide) ?_
  refine gw_bipush (gc k_Model_init_5 39 rfl) (by decide) ?_
  refine gw_bast (gc k_Model_init_6 0 rfl) hW (by omega) (by omega) ?_
  refine gw_dup (gc k_Model_init_6 1 rfl) rfl ?_
  refine gw_bipush (gc k_Model_init_6 2 rfl) (by decide) ?_
  refine gw_bipush (gc k_Model_init_6 3 rfl) (by decide) ?_
  refine gw_bast (gc k_Model_init_6 4 rfl) hW (by omega) (by omega) ?_
  refine gw_dup (gc k_Model_init_6 5 rfl) rfl ?_
  refine gw_bipush (gc k_Model_init_6 6 rfl) (by decide) ?_
  refine gw_bipush (gc k_Model_init_6 7 rfl) (by decide) ?_
  refine gw_bast (gc k_Model_init_6 8 rfl) hW (by omega) (by omega) ?_
  refine gw_dup (gc k_Model_init_6 9 rfl) rfl ?_
  refine gw_bipush (gc k_Model_init_6 10 rfl) (by decide) ?_
  refine gw_bipush (gc k_Model_init_6 11 rfl) (by decide) ?_
  refine gw_bast (gc k_Model_init_6 12 rfl) hW (by omega) (by omega) ?_
  refine gw_dup (gc k_Model_init_6 13 rfl) rfl ?_
  refine gw_bipush (gc k_Model_init_6 14 rfl) (by decide) ?_
  refine gw_bipush (gc k_Model_init_6 15 rfl) (by decide) ?_
  refine gw_bast (gc k_Model_init_6 16 rfl) hW (by omega) (by omega) ?_
  refine gw_dup (gc k_Model_init_6 17 rfl) rfl ?_
  refine gw_bipush (gc k_Model_init_6 18 rfl) (by decide) ?_
  refine gw_bipush (gc k_Model_init_6 19 rfl) (by decide) ?_
  refine gw_bast (gc k_Model_init_6 20 rfl) hW (by omega) (by omega) ?_
  refine gw_dup (gc k_Model_init_6 21 rfl) rfl ?_
  refine gw_bipush (gc k_Model_init_6 22 rfl) (by decide) ?_
  refine gw_bipush (gc k_Model_init_6 23 rfl) (by decide) ?_
  refine gw_bast (gc k_Model_init_6 24 rfl) hW (by omega) (by omega) ?_
  exact kk
def cMB3 : List Cop := [cUp 183 79 114, cUp 183 78 101, cUp 183 77 100, cUp 183 76 110, cUp 183 75 117, cUp 183 74 32, cUp 183 73 101, cUp 183 72 114, cUp 183 71 101, cUp 183 70 104, cUp 183 69 32, cUp 183 68 100, cUp 183 67 111, cUp 183 66 111, cUp 183 65 109, cUp 183 64 32, cUp 183 63 116, cUp 183 62 115, cUp 183 61 97, cUp 183 60 108]
set_option maxHeartbeats 4000000 in
theorem mwB3 {sh : gS} {g : gM} {mc ms : Nat} {Q : gQ} (hW : gsz sh 183 15 137) (kk : gWP f_Model_init 1 mc ms 525 [(2, 177)] [(2, 183), (2, 177)] sh (opsR cMB3 g) Q) : gWP f_Model_init 1 mc ms 405 [(2, 177)] [(2, 183), (2, 177)] sh g Q := by
  show gWP f_Model_init _ _ _ 405 [(2, 177)] [(2, 183), (2, 177)] sh g _
  refine gw_dup (gc k_Model_init_6 25 rfl) rfl ?_
  refine gw_bipush (gc k_Model_init_6 26 rfl) (by decide) ?_
  refine gw_bipush (gc k_Model_init_6 27 rfl) (by decide) ?_
  refine gw_bast (gc k_Model_init_6 28 rfl) hW (by omega) (by omega) ?_
  refine gw_dup (gc k_Model_init_6 29 rfl) rfl ?_
  refine gw_bipush (gc k_Model_init_6 30 rfl) (by decide) ?_
  refine gw_bipush (gc k_Model_init_6 31 rfl) (by decide) ?_
  refine gw_bast (gc k_Model_init_6 32 rfl) hW (by omega) (by omega) ?_
  refine gw_dup (gc k_Model_init_6 33 rfl) rfl ?_
  refine gw_bipush (gc k_Model_init_6 34 rfl) (by decide) ?_
  refine gw_bipush (gc k_Model_init_6 35 rfl) (by decide) ?_
  refine gw_bast (gc k_Model_init_6 36 rfl) hW (by omega) (by omega) ?_
  refine gw_dup (gc k_Model_init_6 37 rfl) rfl ?_
  refine gw_bipush (gc k_Model_init_6 38 rfl) (by decide) ?_
  refine gw_bipush (gc k_Model_init_6 39 rfl) (by decide) ?_
  refine gw_bast (gc k_Model_init_7 0 rfl) hW (by omega) (by omega) ?_
  refine gw_dup (gc k_Model_init_7 1 rfl) rfl ?_
  refine gw_bipush (gc k_Model_init_7 2 rfl) (by decide) ?_
  refine gw_bipush (gc k_Model_init_7 3 rfl) (by decide) ?_
  refine gw_bast (gc k_Model_init_7 4 rfl) hW (by omega) (by omega) ?_
  refine gw_dup (gc k_Model_init_7 5 rfl) rfl ?_
  refine gw_bipush (gc k_Model_init_7 6 rfl) (by decide) ?_
  refine gw_bipush (gc k_Model_init_7 7 rfl) (by decide) ?_
  refine gw_bast (gc k_Model_init_7 8 rfl) hW (by omega) (by omega) ?_
  refine gw_dup (gc k_Model_init_7 9 rfl) rfl ?_
  refine gw_bipush (gc k_Model_init_7 10 rfl) (by decide) ?_
  refine gw_bipush (gc k_Model_init_7 11 rfl) (by decide) ?_
  refine gw_bast (gc k_Model_init_7 12 rfl) hW (by omega) (by omega) ?_
  refine gw_dup (gc k_Model_init_7 13 rfl) rfl ?_
  refine gw_bipush (gc k_Model_init_7 14 rfl) (by decide) ?_
  refine gw_bipush (gc k_Model_init_7 15 rfl) (by decide) ?_
  refine gw_bast (gc k_Model_init_7 16 rfl) hW (by omega) (by omega) ?_
  refine gw_dup (gc k_Model_init_7 17 rfl) rfl ?_
  refine gw_bipush (gc k_Model_init_7 18 rfl) (by decide) ?_
  refine gw_bipush (gc k_Model_init_7 19 rfl) (by decide) ?_
  refine gw_bast (gc k_Model_init_7 20 rfl) hW (by omega) (by omega) ?_
  refine gw_dup (gc k_Model_init_7 21 rfl) rfl ?_
  refine gw_bipush (gc k_Model_init_7 22 rfl) (by decide) ?_
  refine gw_bipush (gc k_Model_init_7 23 rfl) (by decide) ?_
  refine gw_bast (gc k_Model_init_7 24 rfl) hW (by omega) (by omega) ?_
  refine gw_dup (gc k_Model_init_7 25 rfl) rfl ?_
  refine gw_bipush (gc k_Model_init_7 26 rfl) (by decide) ?_
  refine gw_bipush (gc k_Model_init_7 27 rfl) (by decide) ?_
  refine gw_bast (gc k_Model_init_7 28 rfl) hW (by omega) (by omega) ?_
  refine gw_dup (gc k_Model_init_7 29 rfl) rfl ?_
  refine gw_bipush (gc k_Model_init_7 30 rfl) (by decide) ?_
  refine gw_bipush (gc k_Model_init_7 31 rfl) (by decide) ?_
  refine gw_bast (gc k_Model_init_7 32 rfl) hW (by omega) (by omega) ?_
  refine gw_dup (gc k_Model_init_7 33 rfl) rfl ?_
  refine gw_bipush (gc k_Model_init_7 34 rfl) (by decide) ?_
  refine gw_bipush (gc k_Model_init_7 35 rfl) (by decide) ?_
  refine gw_bast (gc k_Model_init_7 36 rfl) hW (by omega) (by omega) ?_
  refine gw_dup (gc k_Model_init_7 37 rfl) rfl ?_
  refine gw_bipush (gc k_Model_init_7 38 rfl) (by decide) ?_
  refine gw_bipush (gc k_Model_init_7 39 rfl) (by decide) ?_
  refine gw_bast (gc k_Model_init_8 0 rfl) hW (by omega) (by omega) ?_
  refine gw_dup (gc k_Model_init_8 1 rfl) rfl ?_
  refine gw_bipush (gc k_Model_init_8 2 rfl) (by decide) ?_
  refine gw_bipush (gc k_Model_init_8 3 rfl) (by decide) ?_
  refine gw_bast (gc k_Model_init_8 4 rfl) hW (by omega) (by omega) ?_
  refine gw_dup (gc k_Model_init_8 5 rfl) rfl ?_
  refine gw_bipush (gc k_Model_init_8 6 rfl) (by decide) ?_
  refine gw_bipush (gc k_Model_init_8 7 rfl) (by decide) ?_
  refine gw_bast (gc k_Model_init_8 8 rfl) hW (by omega) (by omega) ?_
  refine gw_dup (gc k_Model_init_8 9 rfl) rfl ?_
  refine gw_bipush (gc k_Model_init_8 10 rfl) (by decide) ?_
  refine gw_bipush (gc k_Model_init_8 11 rfl) (by decide) ?_
  refine gw_bast (gc k_Model_init_8 12 rfl) hW (by omega) (by omega) ?_
  refine gw_dup (gc k_Model_init_8 13 rfl) rfl ?_
  refine gw_bipush (gc k_Model_init_8 14 rfl) (by decide) ?_
  refine gw_bipush (gc k_Model_init_8 15 rfl) (by decide) ?_
  refine gw_bast (gc k_Model_init_8 16 rfl) hW (by omega) (by omega) ?_
  refine gw_dup (gc k_Model_init_8 17 rfl) rfl ?_
  refine gw_bipush (gc k_Model_init_8 18 rfl) (by decide) ?_
  refine gw_bipush (gc k_Model_init_8 19 rfl) (by decide) ?_
  refine gw_bast (gc k_Model_init_8 20 rfl) hW (by omega) (by omega) ?_
  refine gw_dup (gc k_Model_init_8 21 rfl) rfl ?_
  refine gw_bipush (gc k_Model_init_8 22 rfl) (by decide) ?_
  refine gw_bipush (gc k_Model_init_8 23 rfl) (by decide) ?_
  refine gw_bast (gc k_Model_init_8 24 rfl) hW (by omega) (by omega) ?_
  exact kk
def cMB4 : List Cop := [cUp 183 99 114, cUp 183 98 97, cUp 183 97 98, cUp 183 96 32, cUp 183 95 116, cUp 183 94 115, cUp 183 93 101, cUp 183 92 116, cUp 183 91 97, cUp 183 90 108, cUp 183 89 32, cUp 183 88 101, cUp 183 87 110, cUp 183 86 111, cUp 183 85 100, cUp 183 84 32, cUp 183 83 121, cUp 183 82 97, cUp 183 81 100, cUp 183 80 32]
set_option maxHeartbeats 4000000 in
theorem mwB4 {sh : gS} {g : gM} {mc ms : Nat} {Q : gQ} (hW : gsz sh 183 15 137) (kk : gWP f_Model_init 1 mc ms 645 [(2, 177)] [(2, 183), (2, 177)] sh (opsR cMB4 g) Q) : gWP f_Model_init 1 mc ms 525 [(2, 177)] [(2, 183), (2, 177)] sh g Q := by
  show gWP f_Model_init _ _ _ 525 [(2, 177)] [(2, 183), (2, 177)] sh g _
  refine gw_dup (gc k_Model_init_8 25 rfl) rfl ?_
  refine gw_bipush (gc k_Model_init_8 26 rfl) (by decide) ?_
  refine gw_bipush (gc k_Model_init_8 27 rfl) (by decide) ?_
  refine gw_bast (gc k_Model_init_8 28 rfl) hW (by omega) (by omega) ?_
  refine gw_dup (gc k_Model_init_8 29 rfl) rfl ?_
  refine gw_bipush (gc k_Model_init_8 30 rfl) (by decide) ?_
  refine gw_bipush (gc k_Model_init_8 31 rfl) (by decide) ?_
  refine gw_bast (gc k_Model_init_8 32 rfl) hW (by omega) (by omega) ?_
  refine gw_dup (gc k_Model_init_8 33 rfl) rfl ?_
  refine gw_bipush (gc k_Model_init_8 34 rfl) (by decide) ?_
  refine gw_bipush (gc k_Model_init_8 35 rfl) (by decide) ?_
  refine gw_bast (gc k_Model_init_8 36 rfl) hW (by omega) (by omega) ?_
  refine gw_dup (gc k_Model_init_8 37 rfl) rfl ?_
  refine gw_bipush (gc k_Model_init_8 38 rfl) (by decide) ?_
  refine gw_bipush (gc k_Model_init_8 39 rfl) (by decide) ?_
  refine gw_bast (gc k_Model_init_9 0 rfl) hW (by omega) (by omega) ?_
  refine gw_dup (gc k_Model_init_9 1 rfl) rfl ?_
  refine gw_bipush (gc k_Model_init_9 2 rfl) (by decide) ?_
  refine gw_bipush (gc k_Model_init_9 3 rfl) (by decide) ?_
  refine gw_bast (gc k_Model_init_9 4 rfl) hW (by omega) (by omega) ?_
  refine gw_dup (gc k_Model_init_9 5 rfl) rfl ?_
  refine gw_bipush (gc k_Model_init_9 6 rfl) (by decide) ?_
  refine gw_bipush (gc k_Model_init_9 7 rfl) (by decide) ?_
  refine gw_bast (gc k_Model_init_9 8 rfl) hW (by omega) (by omega) ?_
  refine gw_dup (gc k_Model_init_9 9 rfl) rfl ?_
  refine gw_bipush (gc k_Model_init_9 10 rfl) (by decide) ?_
  refine gw_bipush (gc k_Model_init_9 11 rfl) (by decide) ?_
  refine gw_bast (gc k_Model_init_9 12 rfl) hW (by omega) (by omega) ?_
  refine gw_dup (gc k_Model_init_9 13 rfl) rfl ?_
  refine gw_bipush (gc k_Model_init_9 14 rfl) (by decide) ?_
  refine gw_bipush (gc k_Model_init_9 15 rfl) (by decide) ?_
  refine gw_bast (gc k_Model_init_9 16 rfl) hW (by omega) (by omega) ?_
  refine gw_dup (gc k_Model_init_9 17 rfl) rfl ?_
  refine gw_bipush (gc k_Model_init_9 18 rfl) (by decide) ?_
  refine gw_bipush (gc k_Model_init_9 19 rfl) (by decide) ?_
  refine gw_bast (gc k_Model_init_9 20 rfl) hW (by omega) (by omega) ?_
  refine gw_dup (gc k_Model_init_9 21 rfl) rfl ?_
  refine gw_bipush (gc k_Model_init_9 22 rfl) (by decide) ?_
  refine gw_bipush (gc k_Model_init_9 23 rfl) (by decide) ?_
  refine gw_bast (gc k_Model_init_9 24 rfl) hW (by omega) (by omega) ?_
  refine gw_dup (gc k_Model_init_9 25 rfl) rfl ?_
  refine gw_bipush (gc k_Model_init_9 26 rfl) (by decide) ?_
  refine gw_bipush (gc k_Model_init_9 27 rfl) (by decide) ?_
  refine gw_bast (gc k_Model_init_9 28 rfl) hW (by omega) (by omega) ?_
  refine gw_dup (gc k_Model_init_9 29 rfl) rfl ?_
  refine gw_bipush (gc k_Model_init_9 30 rfl) (by decide) ?_
  refine gw_bipush (gc k_Model_init_9 31 rfl) (by decide) ?_
  refine gw_bast (gc k_Model_init_9 32 rfl) hW (by omega) (by omega) ?_
  refine gw_dup (gc k_Model_init_9 33 rfl) rfl ?_
  refine gw_bipush (gc k_Model_init_9 34 rfl) (by decide) ?_
  refine gw_bipush (gc k_Model_init_9 35 rfl) (by decide) ?_
  refine gw_bast (gc k_Model_init_9 36 rfl) hW (by omega) (by omega) ?_
  refine gw_dup (gc k_Model_init_9 37 rfl) rfl ?_
  refine gw_bipush (gc k_Model_init_9 38 rfl) (by decide) ?_
  refine gw_bipush (gc k_Model_init_9 39 rfl) (by decide) ?_
  refine gw_bast (gc k_Model_init_10 0 rfl) hW (by omega) (by omega) ?_
  refine gw_dup (gc k_Model_init_10 1 rfl) rfl ?_
  refine gw_bipush (gc k_Model_init_10 2 rfl) (by decide) ?_
  refine gw_bipush (gc k_Model_init_10 3 rfl) (by decide) ?_
  refine gw_bast (gc k_Model_init_10 4 rfl) hW (by omega) (by omega) ?_
  refine gw_dup (gc k_Model_init_10 5 rfl) rfl ?_
  refine gw_bipush (gc k_Model_init_10 6 rfl) (by decide) ?_
  refine gw_bipush (gc k_Model_init_10 7 rfl) (by decide) ?_
  refine gw_bast (gc k_Model_init_10 8 rfl) hW (by omega) (by omega) ?_
  refine gw_dup (gc k_Model_init_10 9 rfl) rfl ?_
  refine gw_bipush (gc k_Model_init_10 10 rfl) (by decide) ?_
  refine gw_bipush (gc k_Model_init_10 11 rfl) (by decide) ?_
  refine gw_bast (gc k_Model_init_10 12 rfl) hW (by omega) (by omega) ?_
  refine gw_dup (gc k_Model_init_10 13 rfl) rfl ?_
  refine gw_bipush (gc k_Model_init_10 14 rfl) (by decide) ?_
  refine gw_bipush (gc k_Model_init_10 15 rfl) (by decide) ?_
  refine gw_bast (gc k_Model_init_10 16 rfl) hW (by omega) (by omega) ?_
  refine gw_dup (gc k_Model_init_10 17 rfl) rfl ?_
  refine gw_bipush (gc k_Model_init_10 18 rfl) (by decide) ?_
  refine gw_bipush (gc k_Model_init_10 19 rfl) (by decide) ?_
  refine gw_bast (gc k_Model_init_10 20 rfl) hW (by omega) (by omega) ?_
  refine gw_dup (gc k_Model_init_10 21 rfl) rfl ?_
  refine gw_bipush (gc k_Model_init_10 22 rfl) (by decide) ?_
  refine gw_bipush (gc k_Model_init_10 23 rfl) (by decide) ?_
  refine gw_bast (gc k_Model_init_10 24 rfl) hW (by omega) (by omega) ?_
  exact kk
def cMB5 : List Cop := [cUp 183 119 119, cUp 183 118 115, cUp 183 117 32, cUp 183 116 116, cUp 183 115 102, cUp 183 114 105, cUp 183 113 104, cUp 183 112 115, cUp 183 111 32, cUp 183 110 116, cUp 183 109 101, cUp 183 108 115, cUp 183 107 32, cUp 183 106 108, cUp 183 105 108, cUp 183 104 97, cUp 183 103 32, cUp 183 102 100, cUp 183 101 101, cUp 183 100 114]
set_option maxHeartbeats 4000000 in
theorem mwB5 {sh : gS} {g : gM} {mc ms : Nat} {Q : gQ} (hW : gsz sh 183 15 137) (kk : gWP f_Model_init 1 mc ms 765 [(2, 177)] [(2, 183), (2, 177)] sh (opsR cMB5 g) Q) : gWP f_Model_init 1 mc ms 645 [(2, 177)] [(2, 183), (2, 177)] sh g Q := by
  show gWP f_Model_init _ _ _ 645 [(2, 177)] [(2, 183), (2, 177)] sh g _
  refine gw_dup (gc k_Model_init_10 25 rfl) rfl ?_
  refine gw_bipush (gc k_Model_init_10 26 rfl) (by decide) ?_
  refine gw_bipush (gc k_Model_init_10 27 rfl) (by decide) ?_
  refine gw_bast (gc k_Model_init_10 28 rfl) hW (by omega) (by omega) ?_
  refine gw_dup (gc k_Model_init_10 29 rfl) rfl ?_
  refine gw_bipush (gc k_Model_init_10 30 rfl) (by decide) ?_
  refine gw_bipush (gc k_Model_init_10 31 rfl) (by decide) ?_
  refine gw_bast (gc k_Model_init_10 32 rfl) hW (by omega) (by omega) ?_
  refine gw_dup (gc k_Model_init_10 33 rfl) rfl ?_
  refine gw_bipush (gc k_Model_init_10 34 rfl) (by decide) ?_
  refine gw_bipush (gc k_Model_init_10 35 rfl) (by decide) ?_
  refine gw_bast (gc k_Model_init_10 36 rfl) hW (by omega) (by omega) ?_
  refine gw_dup (gc k_Model_init_10 37 rfl) rfl ?_
  refine gw_bipush (gc k_Model_init_10 38 rfl) (by decide) ?_
  refine gw_bipush (gc k_Model_init_10 39 rfl) (by decide) ?_
  refine gw_bast (gc k_Model_init_11 0 rfl) hW (by omega) (by omega) ?_
  refine gw_dup (gc k_Model_init_11 1 rfl) rfl ?_
  refine gw_bipush (gc k_Model_init_11 2 rfl) (by decide) ?_
  refine gw_bipush (gc k_Model_init_11 3 rfl) (by decide) ?_
  refine gw_bast (gc k_Model_init_11 4 rfl) hW (by omega) (by omega) ?_
  refine gw_dup (gc k_Model_init_11 5 rfl) rfl ?_
  refine gw_bipush (gc k_Model_init_11 6 rfl) (by decide) ?_
  refine gw_bipush (gc k_Model_init_11 7 rfl) (by decide) ?_
  refine gw_bast (gc k_Model_init_11 8 rfl) hW (by omega) (by omega) ?_
  refine gw_dup (gc k_Model_init_11 9 rfl) rfl ?_
  refine gw_bipush (gc k_Model_init_11 10 rfl) (by decide) ?_
  refine gw_bipush (gc k_Model_init_11 11 rfl) (by decide) ?_
  refine gw_bast (gc k_Model_init_11 12 rfl) hW (by omega) (by omega) ?_
  refine gw_dup (gc k_Model_init_11 13 rfl) rfl ?_
  refine gw_bipush (gc k_Model_init_11 14 rfl) (by decide) ?_
  refine gw_bipush (gc k_Model_init_11 15 rfl) (by decide) ?_
  refine gw_bast (gc k_Model_init_11 16 rfl) hW (by omega) (by omega) ?_
  refine gw_dup (gc k_Model_init_11 17 rfl) rfl ?_
  refine gw_bipush (gc k_Model_init_11 18 rfl) (by decide) ?_
  refine gw_bipush (gc k_Model_init_11 19 rfl) (by decide) ?_
  refine gw_bast (gc k_Model_init_11 20 rfl) hW (by omega) (by omega) ?_
  refine gw_dup (gc k_Model_init_11 21 rfl) rfl ?_
  refine gw_bipush (gc k_Model_init_11 22 rfl) (by decide) ?_
  refine gw_bipush (gc k_Model_init_11 23 rfl) (by decide) ?_
  refine gw_bast (gc k_Model_init_11 24 rfl) hW (by omega) (by omega) ?_
  refine gw_dup (gc k_Model_init_11 25 rfl) rfl ?_
  refine gw_bipush (gc k_Model_init_11 26 rfl) (by decide) ?_
  refine gw_bipush (gc k_Model_init_11 27 rfl) (by decide) ?_
  refine gw_bast (gc k_Model_init_11 28 rfl) hW (by omega) (by omega) ?_
  refine gw_dup (gc k_Model_init_11 29 rfl) rfl ?_
  refine gw_bipush (gc k_Model_init_11 30 rfl) (by decide) ?_
  refine gw_bipush (gc k_Model_init_11 31 rfl) (by decide) ?_
  refine gw_bast (gc k_Model_init_11 32 rfl) hW (by omega) (by omega) ?_
  refine gw_dup (gc k_Model_init_11 33 rfl) rfl ?_
  refine gw_bipush (gc k_Model_init_11 34 rfl) (by decide) ?_
  refine gw_bipush (gc k_Model_init_11 35 rfl) (by decide) ?_
  refine gw_bast (gc k_Model_init_11 36 rfl) hW (by omega) (by omega) ?_
  refine gw_dup (gc k_Model_init_11 37 rfl) rfl ?_
  refine gw_bipush (gc k_Model_init_11 38 rfl) (by decide) ?_
  refine gw_bipush (gc k_Model_init_11 39 rfl) (by decide) ?_
  refine gw_bast (gc k_Model_init_12 0 rfl) hW (by omega) (by omega) ?_
  refine gw_dup (gc k_Model_init_12 1 rfl) rfl ?_
  refine gw_bipush (gc k_Model_init_12 2 rfl) (by decide) ?_
  refine gw_bipush (gc k_Model_init_12 3 rfl) (by decide) ?_
  refine gw_bast (gc k_Model_init_12 4 rfl) hW (by omega) (by omega) ?_
  refine gw_dup (gc k_Model_init_12 5 rfl) rfl ?_
  refine gw_bipush (gc k_Model_init_12 6 rfl) (by decide) ?_
  refine gw_bipush (gc k_Model_init_12 7 rfl) (by decide) ?_
  refine gw_bast (gc k_Model_init_12 8 rfl) hW (by omega) (by omega) ?_
  refine gw_dup (gc k_Model_init_12 9 rfl) rfl ?_
  refine gw_bipush (gc k_Model_init_12 10 rfl) (by decide) ?_
  refine gw_bipush (gc k_Model_init_12 11 rfl) (by decide) ?_
  refine gw_bast (gc k_Model_init_12 12 rfl) hW (by omega) (by omega) ?_
  refine gw_dup (gc k_Model_init_12 13 rfl) rfl ?_
  refine gw_bipush (gc k_Model_init_12 14 rfl) (by decide) ?_
  refine gw_bipush (gc k_Model_init_12 15 rfl) (by decide) ?_
  refine gw_bast (gc k_Model_init_12 16 rfl) hW (by omega) (by omega) ?_
  refine gw_dup (gc k_Model_init_12 17 rfl) rfl ?_
  refine gw_bipush (gc k_Model_init_12 18 rfl) (by decide) ?_
  refine gw_bipush (gc k_Model_init_12 19 rfl) (by decide) ?_
  refine gw_bast (gc k_Model_init_12 20 rfl) hW (by omega) (by omega) ?_
  refine gw_dup (gc k_Model_init_12 21 rfl) rfl ?_
  refine gw_bipush (gc k_Model_init_12 22 rfl) (by decide) ?_
  refine gw_bipush (gc k_Model_init_12 23 rfl) (by decide) ?_
  refine gw_bast (gc k_Model_init_12 24 rfl) hW (by omega) (by omega) ?_
  exact kk
def cMB6 : List Cop := [cUp 183 136 32, cUp 183 135 115, cUp 183 134 101, cUp 183 133 109, cUp 183 132 105, cUp 183 131 116, cUp 183 130 32, cUp 183 129 111, cUp 183 128 116, cUp 183 127 32, cUp 183 126 115, cUp 183 125 115, cUp 183 124 97, cUp 183 123 112, cUp 183 122 32, cUp 183 121 112, cUp 183 120 97]
set_option maxHeartbeats 4000000 in
theorem mwB6 {sh : gS} {g : gM} {mc ms : Nat} {Q : gQ} (hW : gsz sh 183 15 137) (kk : gWP f_Model_init 1 mc ms 876 [(2, 177)] [(2, 183), (2, 177)] sh (opsR cMB6 g) Q) : gWP f_Model_init 1 mc ms 765 [(2, 177)] [(2, 183), (2, 177)] sh g Q := by
  show gWP f_Model_init _ _ _ 765 [(2, 177)] [(2, 183), (2, 177)] sh g _
  refine gw_dup (gc k_Model_init_12 25 rfl) rfl ?_
  refine gw_bipush (gc k_Model_init_12 26 rfl) (by decide) ?_
  refine gw_bipush (gc k_Model_init_12 27 rfl) (by decide) ?_
  refine gw_bast (gc k_Model_init_12 28 rfl) hW (by omega) (by omega) ?_
  refine gw_dup (gc k_Model_init_12 29 rfl) rfl ?_
  refine gw_bipush (gc k_Model_init_12 30 rfl) (by decide) ?_
  refine gw_bipush (gc k_Model_init_12 31 rfl) (by decide) ?_
  refine gw_bast (gc k_Model_init_12 32 rfl) hW (by omega) (by omega) ?_
  refine gw_dup (gc k_Model_init_12 33 rfl) rfl ?_
  refine gw_bipush (gc k_Model_init_12 34 rfl) (by decide) ?_
  refine gw_bipush (gc k_Model_init_12 35 rfl) (by decide) ?_
  refine gw_bast (gc k_Model_init_12 36 rfl) hW (by omega) (by omega) ?_
  refine gw_dup (gc k_Model_init_12 37 rfl) rfl ?_
  refine gw_bipush (gc k_Model_init_12 38 rfl) (by decide) ?_
  refine gw_bipush (gc k_Model_init_12 39 rfl) (by decide) ?_
  refine gw_bast (gc k_Model_init_13 0 rfl) hW (by omega) (by omega) ?_
  refine gw_dup (gc k_Model_init_13 1 rfl) rfl ?_
  refine gw_bipush (gc k_Model_init_13 2 rfl) (by decide) ?_
  refine gw_bipush (gc k_Model_init_13 3 rfl) (by decide) ?_
  refine gw_bast (gc k_Model_init_13 4 rfl) hW (by omega) (by omega) ?_
  refine gw_dup (gc k_Model_init_13 5 rfl) rfl ?_
  refine gw_bipush (gc k_Model_init_13 6 rfl) (by decide) ?_
  refine gw_bipush (gc k_Model_init_13 7 rfl) (by decide) ?_
  refine gw_bast (gc k_Model_init_13 8 rfl) hW (by omega) (by omega) ?_
  refine gw_dup (gc k_Model_init_13 9 rfl) rfl ?_
  refine gw_bipush (gc k_Model_init_13 10 rfl) (by decide) ?_
  refine gw_bipush (gc k_Model_init_13 11 rfl) (by decide) ?_
  refine gw_bast (gc k_Model_init_13 12 rfl) hW (by omega) (by omega) ?_
  refine gw_dup (gc k_Model_init_13 13 rfl) rfl ?_
  refine gw_bipush (gc k_Model_init_13 14 rfl) (by decide) ?_
  refine gw_bipush (gc k_Model_init_13 15 rfl) (by decide) ?_
  refine gw_bast (gc k_Model_init_13 16 rfl) hW (by omega) (by omega) ?_
  refine gw_dup (gc k_Model_init_13 17 rfl) rfl ?_
  refine gw_sipush (gc k_Model_init_13 18 rfl) (by decide) ?_
  refine gw_bipush (gc k_Model_init_13 19 rfl) (by decide) ?_
  refine gw_bast (gc k_Model_init_13 20 rfl) hW (by omega) (by omega) ?_
  refine gw_dup (gc k_Model_init_13 21 rfl) rfl ?_
  refine gw_sipush (gc k_Model_init_13 22 rfl) (by decide) ?_
  refine gw_bipush (gc k_Model_init_13 23 rfl) (by decide) ?_
  refine gw_bast (gc k_Model_init_13 24 rfl) hW (by omega) (by omega) ?_
  refine gw_dup (gc k_Model_init_13 25 rfl) rfl ?_
  refine gw_sipush (gc k_Model_init_13 26 rfl) (by decide) ?_
  refine gw_bipush (gc k_Model_init_13 27 rfl) (by decide) ?_
  refine gw_bast (gc k_Model_init_13 28 rfl) hW (by omega) (by omega) ?_
  refine gw_dup (gc k_Model_init_13 29 rfl) rfl ?_
  refine gw_sipush (gc k_Model_init_13 30 rfl) (by decide) ?_
  refine gw_bipush (gc k_Model_init_13 31 rfl) (by decide) ?_
  refine gw_bast (gc k_Model_init_13 32 rfl) hW (by omega) (by omega) ?_
  refine gw_dup (gc k_Model_init_13 33 rfl) rfl ?_
  refine gw_sipush (gc k_Model_init_13 34 rfl) (by decide) ?_
  refine gw_bipush (gc k_Model_init_13 35 rfl) (by decide) ?_
  refine gw_bast (gc k_Model_init_13 36 rfl) hW (by omega) (by omega) ?_
  refine gw_dup (gc k_Model_init_13 37 rfl) rfl ?_
  refine gw_sipush (gc k_Model_init_13 38 rfl) (by decide) ?_
  refine gw_bipush (gc k_Model_init_13 39 rfl) (by decide) ?_
  refine gw_bast (gc k_Model_init_14 0 rfl) hW (by omega) (by omega) ?_
  refine gw_dup (gc k_Model_init_14 1 rfl) rfl ?_
  refine gw_sipush (gc k_Model_init_14 2 rfl) (by decide) ?_
  refine gw_bipush (gc k_Model_init_14 3 rfl) (by decide) ?_
  refine gw_bast (gc k_Model_init_14 4 rfl) hW (by omega) (by omega) ?_
  refine gw_dup (gc k_Model_init_14 5 rfl) rfl ?_
  refine gw_sipush (gc k_Model_init_14 6 rfl) (by decide) ?_
  refine gw_bipush (gc k_Model_init_14 7 rfl) (by decide) ?_
  refine gw_bast (gc k_Model_init_14 8 rfl) hW (by omega) (by omega) ?_
  refine gw_dup (gc k_Model_init_14 9 rfl) rfl ?_
  refine gw_sipush (gc k_Model_init_14 10 rfl) (by decide) ?_
  refine gw_bipush (gc k_Model_init_14 11 rfl) (by decide) ?_
  refine gw_bast (gc k_Model_init_14 12 rfl) hW (by omega) (by omega) ?_
  exact kk
set_option maxHeartbeats 4000000 in
theorem mwC {sh : gS} {g : gM} {mc ms : Nat} {Q : gQ} (hS : (sh.length : Int) = 184) (hO : gsz sh 177 12 51) (hm : 17 ≤ mc ∧ 25646 ≤ ms) (kk : ∀ (s2 : gS) (mc2 ms2 : Nat), s2 = sh ++ sMC → (s2.length : Int) = 201 → gWP f_Model_init 1 mc2 ms2 1039 [(2, 177)] [] s2 (opsR cMC (opsR [cUp 177 7 183] g)) Q) : gWP f_Model_init 1 mc ms 876 [(2, 177)] [(2, 183), (2, 177)] sh g Q := by
  show gWP f_Model_init _ _ _ 876 [(2, 177)] [(2, 183), (2, 177)] sh g _
  refine gw_putAK 7 rfl (gc k_Model_init_14 13 rfl) fl_Model_41 hO (Or.inr ⟨rfl, rfl⟩) (Or.inr ⟨_, rfl⟩) ?_
  refine gw_aload_n (gc k_Model_init_14 14 rfl) rfl rfl ?_
  refine gw_sipush (gc k_Model_init_14 15 rfl) (by decide) ?_
  refine gw_nB (A := 184) (N := 400) (by omega) (gc k_Model_init_14 16 rfl) wd_abyte (by omega) rfl (by omega) (fun z883 l883 => ?_)
  refine gw_putAK 11 rfl (gc k_Model_init_14 17 rfl) fl_Model_45 (hO.app _) (Or.inr ⟨rfl, rfl⟩) (Or.inr ⟨_, rfl⟩) ?_
  refine gw_aload_n (gc k_Model_init_14 18 rfl) rfl rfl ?_
  refine gw_iconst (gc k_Model_init_14 19 rfl) ?_
  refine gw_nI (A := 185) (N := 5) (by omega) (gc k_Model_init_14 20 rfl) wd_aint (by omega) rfl (by omega) (fun z890 l890 => ?_)
  refine gw_putAK 12 rfl (gc k_Model_init_14 21 rfl) fl_Model_48 ((hO.app _).app _) (Or.inr ⟨rfl, rfl⟩) (Or.inr ⟨_, rfl⟩) ?_
  refine gw_aload_n (gc k_Model_init_14 22 rfl) rfl rfl ?_
  refine gw_iconst (gc k_Model_init_14 23 rfl) ?_
  refine gw_putIC 14 rfl (gc k_Model_init_14 24 rfl) fl_Model_51 ((hO.app _).app _) (by first | exact Or.inl rfl | exact Or.inr ⟨rfl, rfl⟩) ?_
  refine gw_aload_n (gc k_Model_init_14 25 rfl) rfl rfl ?_
  refine gw_sipush (gc k_Model_init_14 26 rfl) (by decide) ?_
  refine gw_nI (A := 186) (N := 401) (by omega) (gc k_Model_init_14 27 rfl) wd_aint (by omega) rfl (by omega) (fun z904 l904 => ?_)
  refine gw_putAK 15 rfl (gc k_Model_init_14 28 rfl) fl_Model_54 (((hO.app _).app _).app _) (Or.inr ⟨rfl, rfl⟩) (Or.inr ⟨_, rfl⟩) ?_
  refine gw_aload_n (gc k_Model_init_14 29 rfl) rfl rfl ?_
  refine gw_sipush (gc k_Model_init_14 30 rfl) (by decide) ?_
  refine gw_nI (A := 187) (N := 401) (by omega) (gc k_Model_init_14 31 rfl) wd_aint (by omega) rfl (by omega) (fun z913 l913 => ?_)
  refine gw_putAK 16 rfl (gc k_Model_init_14 32 rfl) fl_Model_57 ((((hO.app _).app _).app _).app _) (Or.inr ⟨rfl, rfl⟩) (Or.inr ⟨_, rfl⟩) ?_
  refine gw_aload_n (gc k_Model_init_14 33 rfl) rfl rfl ?_
  refine gw_sipush (gc k_Model_init_14 34 rfl) (by decide) ?_
  refine gw_nI (A := 188) (N := 401) (by omega) (gc k_Model_init_14 35 rfl) wd_aint (by omega) rfl (by omega) (fun z922 l922 => ?_)
  refine gw_putAK 17 rfl (gc k_Model_init_14 36 rfl) fl_Model_60 (((((hO.app _).app _).app _).app _).app _) (Or.inr ⟨rfl, rfl⟩) (Or.inr ⟨_, rfl⟩) ?_
  refine gw_aload_n (gc k_Model_init_14 37 rfl) rfl rfl ?_
  refine gw_bipush (gc k_Model_init_14 38 rfl) (by decide) ?_
  refine gw_nI (A := 189) (N := 10) (by omega) (gc k_Model_init_14 39 rfl) wd_aint (by omega) rfl (by omega) (fun z930 l930 => ?_)
  refine gw_putAK 26 rfl (gc k_Model_init_15 0 rfl) fl_Model_63 ((((((hO.app _).app _).app _).app _).app _).app _) (Or.inr ⟨rfl, rfl⟩) (Or.inr ⟨_, rfl⟩) ?_
  refine gw_aload_n (gc k_Model_init_15 1 rfl) rfl rfl ?_
  refine gw_sipush (gc k_Model_init_15 2 rfl) (by decide) ?_
  refine gw_nI (A := 190) (N := 416) (by omega) (gc k_Model_init_15 3 rfl) wd_aint (by omega) rfl (by omega) (fun z939 l939 => ?_)
  refine gw_putAK 31 rfl (gc k_Model_init_15 4 rfl) fl_Model_66 (((((((hO.app _).app _).app _).app _).app _).app _).app _) (Or.inr ⟨rfl, rfl⟩) (Or.inr ⟨_, rfl⟩) ?_
  refine gw_aload_n (gc k_Model_init_15 5 rfl) rfl rfl ?_
  refine gw_sipush (gc k_Model_init_15 6 rfl) (by decide) ?_
  refine gw_nI (A := 191) (N := 416) (by omega) (gc k_Model_init_15 7 rfl) wd_aint (by omega) rfl (by omega) (fun z948 l948 => ?_)
  refine gw_putAK 32 rfl (gc k_Model_init_15 8 rfl) fl_Model_69 ((((((((hO.app _).app _).app _).app _).app _).app _).app _).app _) (Or.inr ⟨rfl, rfl⟩) (Or.inr ⟨_, rfl⟩) ?_
  refine gw_aload_n (gc k_Model_init_15 9 rfl) rfl rfl ?_
  refine gw_sipush (gc k_Model_init_15 10 rfl) (by decide) ?_
  refine gw_nI (A := 192) (N := 7500) (by omega) (gc k_Model_init_15 11 rfl) wd_aint (by omega) rfl (by omega) (fun z957 l957 => ?_)
  refine gw_putAK 34 rfl (gc k_Model_init_15 12 rfl) fl_Model_72 (((((((((hO.app _).app _).app _).app _).app _).app _).app _).app _).app _) (Or.inr ⟨rfl, rfl⟩) (Or.inr ⟨_, rfl⟩) ?_
  refine gw_aload_n (gc k_Model_init_15 13 rfl) rfl rfl ?_
  refine gw_sipush (gc k_Model_init_15 14 rfl) (by decide) ?_
  refine gw_nI (A := 193) (N := 7500) (by omega) (gc k_Model_init_15 15 rfl) wd_aint (by omega) rfl (by omega) (fun z966 l966 => ?_)
  refine gw_putAK 35 rfl (gc k_Model_init_15 16 rfl) fl_Model_75 ((((((((((hO.app _).app _).app _).app _).app _).app _).app _).app _).app _).app _) (Or.inr ⟨rfl, rfl⟩) (Or.inr ⟨_, rfl⟩) ?_
  refine gw_aload_n (gc k_Model_init_15 17 rfl) rfl rfl ?_
  refine gw_sipush (gc k_Model_init_15 18 rfl) (by decide) ?_
  refine gw_nZ (A := 194) (N := 7500) (by omega) (gc k_Model_init_15 19 rfl) wd_aboolean (by omega) rfl (by omega) (fun z975 l975 => ?_)
  refine gw_putAK 36 rfl (gc k_Model_init_15 20 rfl) fl_Model_78 (((((((((((hO.app _).app _).app _).app _).app _).app _).app _).app _).app _).app _).app _) (Or.inr ⟨rfl, rfl⟩) (Or.inr ⟨_, rfl⟩) ?_
  refine gw_aload_n (gc k_Model_init_15 21 rfl) rfl rfl ?_
  refine gw_sipush (gc k_Model_init_15 22 rfl) (by decide) ?_
  refine gw_nI (A := 195) (N := 300) (by omega) (gc k_Model_init_15 23 rfl) wd_aint (by omega) rfl (by omega) (fun z984 l984 => ?_)
  refine gw_putAK 37 rfl (gc k_Model_init_15 24 rfl) fl_Model_81 ((((((((((((hO.app _).app _).app _).app _).app _).app _).app _).app _).app _).app _).app _).app _) (Or.inr ⟨rfl, rfl⟩) (Or.inr ⟨_, rfl⟩) ?_
  refine gw_aload_n (gc k_Model_init_15 25 rfl) rfl rfl ?_
  refine gw_sipush (gc k_Model_init_15 26 rfl) (by decide) ?_
  refine gw_nL (A := 196) (N := 300) (by omega) (gc k_Model_init_15 27 rfl) wd_along (by omega) rfl (by omega) (fun z993 l993 => ?_)
  refine gw_putAK 38 rfl (gc k_Model_init_15 28 rfl) fl_Model_84 (((((((((((((hO.app _).app _).app _).app _).app _).app _).app _).app _).app _).app _).app _).app _).app _) (Or.inr ⟨rfl, rfl⟩) (Or.inr ⟨_, rfl⟩) ?_
  refine gw_aload_n (gc k_Model_init_15 29 rfl) rfl rfl ?_
  refine gw_bipush (gc k_Model_init_15 30 rfl) (by decide) ?_
  refine gw_nI (A := 197) (N := 48) (by omega) (gc k_Model_init_15 31 rfl) wd_aint (by omega) rfl (by omega) (fun z1001 l1001 => ?_)
  refine gw_putAK 39 rfl (gc k_Model_init_15 32 rfl) fl_Model_88 ((((((((((((((hO.app _).app _).app _).app _).app _).app _).app _).app _).app _).app _).app _).app _).app _).app _) (Or.inr ⟨rfl, rfl⟩) (Or.inr ⟨_, rfl⟩) ?_
  refine gw_aload_n (gc k_Model_init_15 33 rfl) rfl rfl ?_
  refine gw_bipush (gc k_Model_init_15 34 rfl) (by decide) ?_
  refine gw_nL (A := 198) (N := 21) (by omega) (gc k_Model_init_15 35 rfl) wd_along (by omega) rfl (by omega) (fun z1009 l1009 => ?_)
  refine gw_putAK 40 rfl (gc k_Model_init_15 36 rfl) fl_Model_91 (((((((((((((((hO.app _).app _).app _).app _).app _).app _).app _).app _).app _).app _).app _).app _).app _).app _).app _) (Or.inr ⟨rfl, rfl⟩) (Or.inr ⟨_, rfl⟩) ?_
  refine gw_aload_n (gc k_Model_init_15 37 rfl) rfl rfl ?_
  refine gw_iconst (gc k_Model_init_15 38 rfl) ?_
  refine gw_putIC 41 rfl (gc k_Model_init_15 39 rfl) fl_Model_94 (((((((((((((((hO.app _).app _).app _).app _).app _).app _).app _).app _).app _).app _).app _).app _).app _).app _).app _) (by first | exact Or.inl rfl | exact Or.inr ⟨rfl, rfl⟩) ?_
  refine gw_aload_n (gc k_Model_init_16 0 rfl) rfl rfl ?_
  refine gw_iconst (gc k_Model_init_16 1 rfl) ?_
  refine gw_nL (A := 199) (N := 2) (by omega) (gc k_Model_init_16 2 rfl) wd_along (by omega) rfl (by omega) (fun z1021 l1021 => ?_)
  refine gw_putAK 47 rfl (gc k_Model_init_16 3 rfl) fl_Model_97 ((((((((((((((((hO.app _).app _).app _).app _).app _).app _).app _).app _).app _).app _).app _).app _).app _).app _).app _).app _) (Or.inr ⟨rfl, rfl⟩) (Or.inr ⟨_, rfl⟩) ?_
  refine gw_aload_n (gc k_Model_init_16 4 rfl) rfl rfl ?_
  refine gw_bipush (gc k_Model_init_16 5 rfl) (by decide) ?_
  refine gw_nI (A := 200) (N := 25) (by omega) (gc k_Model_init_16 6 rfl) wd_aint (by omega) rfl (by omega) (fun z1029 l1029 => ?_)
  refine gw_putAK 48 rfl (gc k_Model_init_16 7 rfl) fl_Model_100 (((((((((((((((((hO.app _).app _).app _).app _).app _).app _).app _).app _).app _).app _).app _).app _).app _).app _).app _).app _).app _) (Or.inr ⟨rfl, rfl⟩) (Or.inr ⟨_, rfl⟩) ?_
  refine gw_aload_n (gc k_Model_init_16 8 rfl) rfl rfl ?_
  refine gw_iconst (gc k_Model_init_16 9 rfl) ?_
  refine gw_putIC 49 rfl (gc k_Model_init_16 10 rfl) fl_Model_103 (((((((((((((((((hO.app _).app _).app _).app _).app _).app _).app _).app _).app _).app _).app _).app _).app _).app _).app _).app _).app _) (by first | exact Or.inl rfl | exact Or.inr ⟨rfl, rfl⟩) ?_
  exact kk _ _ _ (by simp [sMC]) (by omega)
set_option maxHeartbeats 4000000 in
theorem mwD {sh : gS} {g : gM} {mc ms : Nat} {Q : gQ} (hO : gsz sh 177 12 51) (hK : gsz sh 179 13 5652) (hv2 : g 177 2 = 179) (kk : Q none sh (opsR [cUp 179 44 (-1), cUp 179 40 24, cUp 179 37 1] g)) : gWP f_Model_init 1 mc ms 1039 [(2, 177)] [] sh g Q := by
  show gWP f_Model_init _ _ _ 1039 [(2, 177)] [] sh g _
  refine gw_aload_n (gc k_Model_init_16 11 rfl) rfl rfl ?_
  refine gw_getf 2 rfl (gc k_Model_init_16 12 rfl) fl_Model_28 hO ?_
  rw [hv2]
  refine gw_bipush (gc k_Model_init_16 13 rfl) (by decide) ?_
  refine gw_iconst (gc k_Model_init_16 14 rfl) ?_
  refine gw_iast (gc k_Model_init_16 15 rfl) hK (by omega) ?_
  refine gw_aload_n (gc k_Model_init_16 16 rfl) rfl rfl ?_
  refine gw_getf 2 rfl (gc k_Model_init_16 17 rfl) fl_Model_28 hO ?_
  rw [gup_a _ _ _ _ _ (by decide), hv2]
  refine gw_bipush (gc k_Model_init_16 18 rfl) (by decide) ?_
  refine gw_bipush (gc k_Model_init_16 19 rfl) (by decide) ?_
  refine gw_iast (gc k_Model_init_16 20 rfl) hK (by omega) ?_
  refine gw_aload_n (gc k_Model_init_16 21 rfl) rfl rfl ?_
  refine gw_getf 2 rfl (gc k_Model_init_16 22 rfl) fl_Model_28 hO ?_
  rw [gup_a _ _ _ _ _ (by decide), gup_a _ _ _ _ _ (by decide), hv2]
  refine gw_bipush (gc k_Model_init_16 23 rfl) (by decide) ?_
  refine gw_iconst (gc k_Model_init_16 24 rfl) ?_
  refine gw_iast (gc k_Model_init_16 25 rfl) hK (by omega) ?_
  refine gw_return (gc k_Model_init_16 26 rfl) rfl ?_
  exact kk
def oModel_init : List Cop := [cUp 179 44 (-1), cUp 179 40 24, cUp 179 37 1] ++ (cMC ++ ([cUp 177 7 183] ++ (cMB6 ++ (cMB5 ++ (cMB4 ++ (cMB3 ++ (cMB2 ++ (cMB1 ++ (cMB0 ++ cMA)))))))))
def sModel_init : gS := sMA ++ sMC
set_option maxHeartbeats 4000000 in
theorem c_Model_init {sh : gS} {g : gM} (hS : (sh.length : Int) = 177 + 1) (hO : gsz sh 177 12 51) : gTri f_Model_init 1 23 42798 [(2, 177)] sh g (fun x s1 g1 => x = none ∧ s1 = sh ++ sModel_init ∧ g1 = opsR oModel_init g ∧ (s1.length : Int) = 201) := by
  refine gTri.of (by decide +kernel) rfl ?_
  show gWP f_Model_init _ _ _ 0 [(2, 177)] [] sh g _
  refine mwA hS hO (by decide) (fun s2 mc2 ms2 e1 e2 z183 z177 z179 hm => ?_)
  refine mwB0 z183 ?_
  refine mwB1 z183 ?_
  refine mwB2 z183 ?_
  refine mwB3 z183 ?_
  refine mwB4 z183 ?_
  refine mwB5 z183 ?_
  refine mwB6 z183 ?_
  refine mwC e2 z177 hm (fun s3 mc3 ms3 e3 e4 => ?_)
  subst e3
  refine mwD (z177.app _) (z179.app _) ?_ ⟨rfl, ?_, ?_, e4⟩
  · rw [← opsR_app, ← opsR_app, ← opsR_app, ← opsR_app, ← opsR_app, ← opsR_app, ← opsR_app, ← opsR_app, ← opsR_app]
    exact opsV_ok (by decide +kernel)
  · rw [e1, sModel_init, List.append_assoc]
  · simp only [oModel_init, opsR_app]
