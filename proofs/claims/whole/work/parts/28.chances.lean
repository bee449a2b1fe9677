theorem c_fillI_l {G : jG} {d : Nat} {M : jMem} {Q : Option Value → jMem → Prop} {k N : Nat} {z : Int} (hk : jsh k = (0, N)) (hN : N < 1000) (h : Q none (jblk M k 0 N (fun _ => z)))  : ∀ (f : Nat) (i : Int), 0 ≤ i → i ≤ N → N - i < f → jM G mJ7_fill_53178 (d) 5 [.ref (jad G k), .int (jI z), .int (jI i), .int (jI N)] [] (jblk M k 0 i (fun _ => z)) Q := by
  intro f
  induction f with
  | zero =>
    intro i h0 h1 hf
    exact absurd hf (by omega)
  | succ f ih =>
    intro i h0 h1 hf
    refine jr_iload_n (n := 6) dJ7_fill_53178_5 rfl rfl ?_
    refine jr_iload_n (n := 7) dJ7_fill_53178_6 rfl rfl ?_
    refine jr_icmp_ge (n := 10) (t := 20) dJ7_fill_53178_7 (by decide) rfl (by omega) (by omega) (fun b7 => ?_) (fun b7 => ?_)
    · refine jr_vret dJ7_fill_53178_20 rfl ?_
      have e : i = N := by omega
      subst e
      exact h
    · refine jr_aload_n (n := 11) dJ7_fill_53178_10 rfl rfl ?_
      refine jr_iload_n (n := 12) dJ7_fill_53178_11 rfl rfl ?_
      refine jr_iload_n (n := 13) dJ7_fill_53178_12 rfl rfl ?_
      refine jr_iast (n := 14) dJ7_fill_53178_13 rfl hk hN (by omega) (by omega) ?_
      refine jr_iinc2 (n := 17) dJ7_fill_53178_14 rfl (by decide) rfl ?_
      refine jr_goto (t := 5) dJ7_fill_53178_17 (by decide) ?_
      rw [jblk_up _ k (fun _ => z) (by omega) rfl]
      exact ih (i + 1) (by omega) (by omega) (by omega)
theorem c_fillI {G : jG} {d : Nat} {M : jMem} {Q : Option Value → jMem → Prop} {k N : Nat} {z : Int} (hk : jsh k = (0, N)) (hN : N < 1000) (h : Q none (jblk M k 0 N (fun _ => z)))  : jN G mJ7_fill_53178 d [.ref (jad G k), .int (jI z)] M Q := by
  show jM G mJ7_fill_53178 d 0 [.ref (jad G k), .int (jI z), .null, .null] [] M Q
  refine jr_iconst (n := 1) dJ7_fill_53178_0 rfl ?_
  refine jr_istore2 (n := 2) dJ7_fill_53178_1 rfl (by decide) rfl ?_
  refine jr_aload_n (n := 3) dJ7_fill_53178_2 rfl rfl ?_
  refine jr_alen (n := 4) dJ7_fill_53178_3 rfl hk (by decide) ?_
  refine jr_istore3 (n := 5) dJ7_fill_53178_4 rfl (by decide) rfl ?_
  have k9 := c_fillI_l (G := G) (d := d) hk hN h (N + 1) 0 (by omega) (by omega) (by omega)
  rw [jblk_0] at k9
  exact k9

theorem c_fillL_l {G : jG} {d : Nat} {M : jMem} {Q : Option Value → jMem → Prop} {k N : Nat} {z : Int} (hk : jsh k = (1, N)) (hN : N < 1000) (h : Q none (jblk M k 0 N (fun _ => z)))  : ∀ (f : Nat) (i : Int), 0 ≤ i → i ≤ N → N - i < f → jM G mJ7_fill_d0a16 (d) 6 [.ref (jad G k), .long (jL z), .null, .int (jI i), .int (jI N)] [] (jblk M k 0 i (fun _ => z)) Q := by
  intro f
  induction f with
  | zero =>
    intro i h0 h1 hf
    exact absurd hf (by omega)
  | succ f ih =>
    intro i h0 h1 hf
    refine jr_iload_n (n := 7) dJ7_fill_d0a16_6 rfl rfl ?_
    refine jr_iload (n := 9) dJ7_fill_d0a16_7 rfl rfl ?_
    refine jr_icmp_ge (n := 12) (t := 22) dJ7_fill_d0a16_9 (by decide) rfl (by omega) (by omega) (fun b9 => ?_) (fun b9 => ?_)
    · refine jr_vret dJ7_fill_d0a16_22 rfl ?_
      have e : i = N := by omega
      subst e
      exact h
    · refine jr_aload_n (n := 13) dJ7_fill_d0a16_12 rfl rfl ?_
      refine jr_iload_n (n := 14) dJ7_fill_d0a16_13 rfl rfl ?_
      refine jr_lload_n (n := 15) dJ7_fill_d0a16_14 rfl rfl ?_
      refine jr_last (n := 16) dJ7_fill_d0a16_15 rfl hk hN (by omega) (by omega) ?_
      refine jr_iinc3 (n := 19) dJ7_fill_d0a16_16 rfl (by decide) rfl ?_
      refine jr_goto (t := 6) dJ7_fill_d0a16_19 (by decide) ?_
      rw [jblk_up _ k (fun _ => z) (by omega) rfl]
      exact ih (i + 1) (by omega) (by omega) (by omega)
theorem c_fillL {G : jG} {d : Nat} {M : jMem} {Q : Option Value → jMem → Prop} {k N : Nat} {z : Int} (hk : jsh k = (1, N)) (hN : N < 1000) (h : Q none (jblk M k 0 N (fun _ => z)))  : jN G mJ7_fill_d0a16 d [.ref (jad G k), .long (jL z)] M Q := by
  show jM G mJ7_fill_d0a16 d 0 [.ref (jad G k), .long (jL z), .null, .null, .null] [] M Q
  refine jr_iconst (n := 1) dJ7_fill_d0a16_0 rfl ?_
  refine jr_istore3 (n := 2) dJ7_fill_d0a16_1 rfl (by decide) rfl ?_
  refine jr_aload_n (n := 3) dJ7_fill_d0a16_2 rfl rfl ?_
  refine jr_alen (n := 4) dJ7_fill_d0a16_3 rfl hk (by decide) ?_
  refine jr_istore4 (n := 6) dJ7_fill_d0a16_4 rfl (by decide) rfl ?_
  have k9 := c_fillL_l (G := G) (d := d) hk hN h (N + 1) 0 (by omega) (by omega) (by omega)
  rw [jblk_0] at k9
  exact k9

-- what only the working rows change
def jFC (M N : jMem) : Prop := ∀ a, a ≠ 4 → (a < 21 ∨ 32 < a) → N a = M a
def jFE (M N : jMem) : Prop := (∀ a, a ≠ 8 → a < 55 → N a = M a) ∧ ∀ b, b ≠ 26 → N 8 b = M 8 b
theorem jFC.rf {M : jMem} : jFC M M := fun _ _ _ => rfl
theorem jFE.rf {M : jMem} : jFE M M := ⟨fun _ _ _ => rfl, fun _ _ => rfl⟩
theorem jFC.tr {M N O : jMem} (h : jFC M N) (g : jFC N O) : jFC M O := fun a h1 h2 => (g a h1 h2).trans (h a h1 h2)
theorem jFE.tr {M N O : jMem} (h : jFE M N) (g : jFE N O) : jFE M O := ⟨fun a h1 h2 => (g.1 a h1 h2).trans (h.1 a h1 h2), fun b hb => (g.2 b hb).trans (h.2 b hb)⟩
theorem jFC.blk {M N : jMem} (h : jFC M N) {k : Nat} {lo hi : Int} {f : Int → Int} (h1 : 21 ≤ k) (h2 : k ≤ 32) : jFC M (jblk N k lo hi f) := fun a q1 q2 => by
  rw [← h a q1 q2]; funext b; exact jblk_ne (by omega) b
theorem jFC.up {M N : jMem} (h : jFC M N) {k : Nat} {i v : Int} (h1 : k = 4 ∨ (21 ≤ k ∧ k ≤ 32)) : jFC M (jup N k i v) := fun a q1 q2 => by
  rw [← h a q1 q2]; funext b; exact jup_ne (by omega) b
theorem jFE.blk {M N : jMem} (h : jFE M N) {k : Nat} {lo hi : Int} {f : Int → Int} (h1 : 55 ≤ k) : jFE M (jblk N k lo hi f) := ⟨fun a q1 q2 => by
  rw [← h.1 a q1 q2]; funext b; exact jblk_ne (by omega) b, fun b hb => by rw [← h.2 b hb]; exact jblk_ne (by omega) b⟩
theorem jFE.up {M N : jMem} (h : jFE M N) {k : Nat} {i v : Int} (h1 : 55 ≤ k) : jFE M (jup N k i v) := ⟨fun a q1 q2 => by
  rw [← h.1 a q1 q2]; funext b; exact jup_ne (by omega) b, fun b hb => by rw [← h.2 b hb]; exact jup_ne (by omega) b⟩
theorem jFE.op {M N : jMem} (h : jFE M N) {v : Int} : jFE M (jup N 8 26 v) := ⟨fun a q1 q2 => by
  rw [← h.1 a q1 q2]; funext b; exact jup_ne q1 b, fun b hb => by rw [← h.2 b hb]; exact jup_off hb⟩
theorem jK_C {M N : jMem} (f : jFC M N) (h : jK M) : jK N :=
  jK_cong (congrFun (f 1 (by decide) (by decide)) 8) (congrFun (f 2 (by decide) (by decide)) 3) (congrFun (f 6 (by decide) (by decide)) 3) (f 9 (by decide) (by decide)) (f 10 (by decide) (by decide)) (f 11 (by decide) (by decide)) (f 12 (by decide) (by decide)) (f 13 (by decide) (by decide)) (f 14 (by decide) (by decide)) (f 15 (by decide) (by decide)) (f 16 (by decide) (by decide)) (f 17 (by decide) (by decide)) (f 18 (by decide) (by decide)) (f 19 (by decide) (by decide)) (f 20 (by decide) (by decide)) (f 33 (by decide) (by decide)) (f 34 (by decide) (by decide)) (f 35 (by decide) (by decide)) (f 36 (by decide) (by decide)) (f 37 (by decide) (by decide)) h
theorem jO_E {M N : jMem} (f : jFE M N) (h : jO M) : jO N :=
  jO_cong (f.2 2 (by decide)) (f.2 8 (by decide)) (f.2 14 (by decide)) (f.1 49 (by decide) (by decide)) (f.1 40 (by decide) (by decide)) (f.1 41 (by decide) (by decide)) (f.1 42 (by decide) (by decide)) (f.1 43 (by decide) (by decide)) (f.1 44 (by decide) (by decide)) (f.1 48 (by decide) (by decide)) (f.1 39 (by decide) (by decide)) (f.1 38 (by decide) (by decide)) (f.1 45 (by decide) (by decide)) (f.1 46 (by decide) (by decide)) (f.1 47 (by decide) (by decide)) (f.1 50 (by decide) (by decide)) (f.1 51 (by decide) (by decide)) (f.1 52 (by decide) (by decide)) (f.1 54 (by decide) (by decide)) (f.1 53 (by decide) (by decide)) h
theorem jblk_dn (M : jMem) (k : Nat) {lo hi x : Int} (f : Int → Int) (h : lo < hi) (hx : x = f lo) : jup (jblk M k (lo + 1) hi f) k lo x = jblk M k lo hi f := by
  subst hx
  funext a b
  unfold jup jblk
  by_cases e : a = k ∧ b = lo
  · obtain ⟨rfl, rfl⟩ := e
    rw [if_pos ⟨rfl, rfl⟩, if_pos ⟨rfl, by omega, h⟩]
  · rw [if_neg e]
    by_cases q : a = k ∧ lo + 1 ≤ b ∧ b < hi
    · rw [if_pos q, if_pos ⟨q.1, by omega, q.2.2⟩]
    · rw [if_neg q, if_neg (fun r => q ⟨r.1, by have : b ≠ lo := fun z => e ⟨r.1, z⟩; omega, r.2.2⟩)]
-- the weights
def jws (u : Int → Int) (le fo : Int) : Int → Int := fun t => u t * fo + (if le ≤ t then u (t - le) else 0) * (100 - fo)
def jwt (li le fo : Int → Int) (b : Int) : Nat → Int → Int
  | 0 => fun t => if t = 0 then 1 else 0
  | n + 1 => jws (jwt li le fo b n) (le (li (b + (n : Int)))) (fo (li (b + (n : Int))))
theorem jws_cong {u v : Int → Int} {le fo : Int} (h : ∀ t, 0 ≤ t → t < 49 → u t = v t) (hl : 0 ≤ le) : ∀ t, 0 ≤ t → t < 49 → jws u le fo t = jws v le fo t := by
  intro t t0 t1
  unfold jws
  rw [h t t0 t1]
  by_cases q : le ≤ t
  · rw [if_pos q, if_pos q, h (t - le) (by omega) (by omega)]
  · rw [if_neg q, if_neg q]
/-- what one quarter costs -/
def jct (u : Int → Int) (q A B : Int) : Int → Int := fun t => u t * (if q < t then (t - q) * A else (q - t) * B)
def jcst (u : Int → Int) (q A B : Int) : Int := jsum (jct u q A B) 49
def jbs (u : Int → Int) (A B a : Int) : Nat → Int × Int
  | 0 => (a, jcst u a A B)
  | n + 1 => if jlc (jcst u (a + 1 + (n : Int)) A B) (jbs u A B a n).2 < 0 then (a + 1 + (n : Int), jcst u (a + 1 + (n : Int)) A B) else jbs u A B a n
theorem jbs_b (u : Int → Int) (A B a : Int) : ∀ n : Nat, a ≤ (jbs u A B a n).1 ∧ (jbs u A B a n).1 ≤ a + n
  | 0 => by show a ≤ a ∧ a ≤ a + 0; omega
  | n + 1 => by
    have := jbs_b u A B a n
    unfold jbs
    split
    · show a ≤ a + 1 + (n : Int) ∧ a + 1 + (n : Int) ≤ a + ((n + 1 : Nat) : Int); omega
    · omega
def jwp (s : Int) (ki : Int → Int) : Int → Int := fun v => if jbit s v then jsv 0 (ki v) else 0
def jgw (s : Int) (wa : Int → Int) : Nat → Int
  | 0 => 0
  | n + 1 => if jbit s (n : Int) then max (jgw s wa n) (wa (n : Int)) else jgw s wa n
theorem jsv0 {v : Int} (h0 : 0 ≤ v) (h1 : v ≤ 4) : jsv 0 v = if 3 ≤ v then 3 else if v = 1 then 2 else 1 := by
  have : v = 0 ∨ v = 1 ∨ v = 2 ∨ v = 3 ∨ v = 4 := by omega
  rcases this with h | h | h | h | h <;> subst h <;> decide
theorem jsv0_b {v : Int} (h0 : 0 ≤ v) (h1 : v ≤ 4) : 1 ≤ jsv 0 v ∧ jsv 0 v ≤ 3 := by
  rw [jsv0 h0 h1]
  split
  · omega
  · split <;> omega
theorem jgw_b {s : Int} {wa : Int → Int} : ∀ n : Nat, (∀ i : Int, 0 ≤ i → i < n → 0 ≤ wa i ∧ wa i ≤ 12) → 0 ≤ jgw s wa n ∧ jgw s wa n ≤ 12
  | 0, _ => by show (0 : Int) ≤ 0 ∧ (0 : Int) ≤ 12; omega
  | n + 1, h => by
    have h1 := jgw_b (s := s) n (fun i h0 h1 => h i h0 (by omega))
    have h2 := h n (by omega) (by omega)
    unfold jgw
    split <;> omega
theorem jgw_s (s : Int) (wa : Int → Int) {i : Int} (h : 0 ≤ i) : jgw s wa (i + 1).toNat = if jbit s i then max (jgw s wa i.toNat) (wa i) else jgw s wa i.toNat := by
  rw [show (i + 1).toNat = i.toNat + 1 by omega]
  show (if jbit s ((i.toNat : Nat) : Int) then max (jgw s wa i.toNat) (wa ((i.toNat : Nat) : Int)) else jgw s wa i.toNat) = _
  rw [show ((i.toNat : Nat) : Int) = i by omega]
theorem jwp_b {M : jMem} {s p : Int} {ki : Int → Int} (hp : 0 ≤ p ∧ p ≤ 10) (h : ∀ v, 0 ≤ v → v < 10 → 0 ≤ ki v ∧ ki v ≤ 4) {i : Int} (h0 : 0 ≤ i) (h1 : i ≤ p) : 0 ≤ jsum (jwp s ki) i.toNat ∧ jsum (jwp s ki) i.toNat ≤ 30 := by
  have := jsum_b (f := jwp s ki) (c := 3) i.toNat (fun v v0 v1 => by
    unfold jwp
    have := h v v0 (by omega)
    have := jsv0_b this.1 this.2
    split <;> omega)
  omega
theorem c_putAhead_l {G : jG} {d : Nat} {M : jMem} {Q : Option Value → jMem → Prop} {a e : Int} (hl : 0 ≤ a ∧ a ≤ 8) (hf : 0 ≤ e ∧ e ≤ 100) (h : Q none (jblk M 21 0 49 (jws (M 21) a e)))  : ∀ (f : Nat) (i : Int), -1 ≤ i → i < 49 → i + 1 < f → jM G mX0_putAhead (d) 3 [.ref (jad G 3), .int (jI a), .int (jI e), .int (jI i), .null, .null] [] (jblk M 21 (i + 1) 49 (jws (M 21) a e)) Q := by
  intro f
  induction f with
  | zero =>
    intro i h0 h1 hm
    exact absurd hm (by omega)
  | succ f ih =>
    intro i h0 h1 hm
    refine jr_iload_n (n := 4) dX0_putAhead_3 rfl rfl ?_
    refine jr_if_lt (n := 7) (t := 56) dX0_putAhead_4 (by decide) rfl (by omega) (fun b4 => ?_) (fun b4 => ?_)
    · refine jr_vret dX0_putAhead_56 rfl ?_
      have e9 : i = -1 := by omega
      subst e9
      exact h
    · refine jr_iload_n (n := 8) dX0_putAhead_7 rfl rfl ?_
      refine jr_iload_n (n := 9) dX0_putAhead_8 rfl rfl ?_
      refine jr_icmp_lt (n := 12) (t := 23) dX0_putAhead_9 (by decide) rfl (by omega) (by omega) (fun b9 => ?_) (fun b9 => ?_)
      · refine jr_lconst (n := 24) (x := 0) dX0_putAhead_23 rfl (by decide) ?_
        refine jr_lstore4 (n := 26) dX0_putAhead_24 rfl (by decide) rfl ?_
        refine jr_aload_n (n := 27) dX0_putAhead_26 rfl rfl ?_
        refine jr_getR (n := 30) dX0_putAhead_27 rfl fX0_9 rfl (by decide) (by decide) rfl ?_
        refine jr_iload_n (n := 31) dX0_putAhead_30 rfl rfl ?_
        refine jr_aload_n (n := 32) dX0_putAhead_31 rfl rfl ?_
        refine jr_getR (n := 35) dX0_putAhead_32 rfl fX0_9 rfl (by decide) (by decide) rfl ?_
        refine jr_iload_n (n := 36) dX0_putAhead_35 rfl rfl ?_
        refine jr_lald (n := 37) dX0_putAhead_36 rfl rfl (by decide) (by omega) (by omega) ?_
        rw [jblk_out (by omega)]
        refine jr_iload_n (n := 38) dX0_putAhead_37 rfl rfl ?_
        refine jr_i2l (n := 39) dX0_putAhead_38 rfl (by omega) ?_
        refine jr_lmul (n := 40) dX0_putAhead_39 rfl ?_
        refine jr_lload (n := 42) dX0_putAhead_40 rfl rfl ?_
        refine jr_bipush (n := 44) dX0_putAhead_42 rfl (by decide) ?_
        refine jr_iload_n (n := 45) dX0_putAhead_44 rfl rfl ?_
        refine jr_isub (n := 46) dX0_putAhead_45 rfl ?_
        refine jr_i2l (n := 47) dX0_putAhead_46 rfl (by omega) ?_
        refine jr_lmul (n := 48) dX0_putAhead_47 rfl ?_
        refine jr_ladd (n := 49) dX0_putAhead_48 rfl ?_
        refine jr_last (n := 50) dX0_putAhead_49 rfl rfl (by decide) (by omega) (by omega) ?_
        refine jr_iinc3 (n := 53) dX0_putAhead_50 rfl (by decide) rfl ?_
        refine jr_goto (t := 3) dX0_putAhead_53 (by decide) ?_
        rw [jblk_dn _ 21 (jws (M 21) a e) (by omega) (by unfold jws; first | rw [if_pos (by omega)] | rw [if_neg (by omega)])]
        have k9 := ih (i - 1) (by omega) (by omega) (by omega)
        rw [show i - 1 + 1 = i by omega] at k9
        exact jr_drop k9 ⟨Or.inr rfl, Or.inr rfl, Or.inr rfl, Or.inr rfl, Or.inl rfl, Or.inl rfl, trivial⟩
      · refine jr_aload_n (n := 13) dX0_putAhead_12 rfl rfl ?_
        refine jr_getR (n := 16) dX0_putAhead_13 rfl fX0_9 rfl (by decide) (by decide) rfl ?_
        refine jr_iload_n (n := 17) dX0_putAhead_16 rfl rfl ?_
        refine jr_iload_n (n := 18) dX0_putAhead_17 rfl rfl ?_
        refine jr_isub (n := 19) dX0_putAhead_18 rfl ?_
        refine jr_lald (n := 20) dX0_putAhead_19 rfl rfl (by decide) (by omega) (by omega) ?_
        rw [jblk_out (by omega)]
        refine jr_goto (t := 24) dX0_putAhead_20 (by decide) ?_
        refine jr_lstore4 (n := 26) dX0_putAhead_24 rfl (by decide) rfl ?_
        refine jr_aload_n (n := 27) dX0_putAhead_26 rfl rfl ?_
        refine jr_getR (n := 30) dX0_putAhead_27 rfl fX0_9 rfl (by decide) (by decide) rfl ?_
        refine jr_iload_n (n := 31) dX0_putAhead_30 rfl rfl ?_
        refine jr_aload_n (n := 32) dX0_putAhead_31 rfl rfl ?_
        refine jr_getR (n := 35) dX0_putAhead_32 rfl fX0_9 rfl (by decide) (by decide) rfl ?_
        refine jr_iload_n (n := 36) dX0_putAhead_35 rfl rfl ?_
        refine jr_lald (n := 37) dX0_putAhead_36 rfl rfl (by decide) (by omega) (by omega) ?_
        rw [jblk_out (by omega)]
        refine jr_iload_n (n := 38) dX0_putAhead_37 rfl rfl ?_
        refine jr_i2l (n := 39) dX0_putAhead_38 rfl (by omega) ?_
        refine jr_lmul (n := 40) dX0_putAhead_39 rfl ?_
        refine jr_lload (n := 42) dX0_putAhead_40 rfl rfl ?_
        refine jr_bipush (n := 44) dX0_putAhead_42 rfl (by decide) ?_
        refine jr_iload_n (n := 45) dX0_putAhead_44 rfl rfl ?_
        refine jr_isub (n := 46) dX0_putAhead_45 rfl ?_
        refine jr_i2l (n := 47) dX0_putAhead_46 rfl (by omega) ?_
        refine jr_lmul (n := 48) dX0_putAhead_47 rfl ?_
        refine jr_ladd (n := 49) dX0_putAhead_48 rfl ?_
        refine jr_last (n := 50) dX0_putAhead_49 rfl rfl (by decide) (by omega) (by omega) ?_
        refine jr_iinc3 (n := 53) dX0_putAhead_50 rfl (by decide) rfl ?_
        refine jr_goto (t := 3) dX0_putAhead_53 (by decide) ?_
        rw [jblk_dn _ 21 (jws (M 21) a e) (by omega) (by unfold jws; first | rw [if_pos (by omega)] | rw [if_neg (by omega)])]
        have k9 := ih (i - 1) (by omega) (by omega) (by omega)
        rw [show i - 1 + 1 = i by omega] at k9
        exact jr_drop k9 ⟨Or.inr rfl, Or.inr rfl, Or.inr rfl, Or.inr rfl, Or.inl rfl, Or.inl rfl, trivial⟩

theorem c_putAhead {G : jG} {d : Nat} {M : jMem} {Q : Option Value → jMem → Prop} {a e : Int} (hl : 0 ≤ a ∧ a ≤ 8) (hf : 0 ≤ e ∧ e ≤ 100) (h : Q none (jblk M 21 0 49 (jws (M 21) a e)))  : jN G mX0_putAhead (d) [.ref (jad G 3), .int (jI a), .int (jI e)] M Q := by
  show jM G mX0_putAhead (d) 0 [.ref (jad G 3), .int (jI a), .int (jI e), .null, .null, .null] [] M Q
  refine jr_bipush (n := 2) dX0_putAhead_0 rfl (by decide) ?_
  refine jr_istore3 (n := 3) dX0_putAhead_2 rfl (by decide) rfl ?_
  have k9 := c_putAhead_l (G := G) (d := d) hl hf h 50 48 (by omega) (by omega) (by omega)
  rw [show jblk M 21 (48 + 1) 49 (jws (M 21) a e) = M from jblk_0 _ _ _ _] at k9
  exact k9

theorem c_weigh_l {G : jG} {d : Nat} {M : jMem} {Q : Option Value → jMem → Prop} (hI : jK M) {k p : Int} (hk : 0 ≤ k ∧ k < M 1 8) (hp : jpl M k p) (h : ∀ N, jFC M N → (∀ t, 0 ≤ t → t < 49 → N 21 t = jwt (M 16) (M 11) (M 12) (6 * M 10 k) p.toNat t) → Q none N)  : ∀ (f : Nat) (i : Int) (N : jMem), 0 ≤ i → i ≤ p → jFC M N → (∀ t, 0 ≤ t → t < 49 → N 21 t = jwt (M 16) (M 11) (M 12) (6 * M 10 k) i.toNat t) → p - i < f → jM G mX0_weigh (d + 2) 32 [.ref (jad G 3), .ref (jad G 1), .int (jI k), .int (jI (M 10 k)), .int (jI p), .int (jI i), .null] [] (N) Q := by
  intro f
  induction f with
  | zero =>
    intro i N h0 h1 hN hw hf
    exact absurd hf (by omega)
  | succ f ih =>
    intro i N h0 h1 hN hw hf
    have hz := jn1 hI
    have hp1 := hp.2.1
    have hr := (jn3 hI k (by omega) (by omega)).1
    have hs := jn2 hI _ hr.1 hr.2
    have n11 := hN 11 (by decide) (by decide)
    have n12 := hN 12 (by decide) (by decide)
    have n16 := hN 16 (by decide) (by decide)
    have n17 := hN 17 (by decide) (by decide)
    refine jr_iload (n := 34) dX0_weigh_32 rfl rfl ?_
    refine jr_iload (n := 36) dX0_weigh_34 rfl rfl ?_
    refine jr_icmp_ge (n := 39) (t := 78) dX0_weigh_36 (by decide) rfl (by omega) (by omega) (fun b36 => ?_) (fun b36 => ?_)
    · refine jr_vret dX0_weigh_78 rfl ?_
      have e : i = p := by omega
      subst e
      exact h N hN hw
    · refine jr_aload_n (n := 40) dX0_weigh_39 rfl rfl ?_
      refine jr_iload_n (n := 41) dX0_weigh_40 rfl rfl ?_
      refine jr_iload (n := 43) dX0_weigh_41 rfl rfl ?_
      refine jr_cV2 (n := 46) (ci := 2) (ν := mX2_caseAt) dX0_weigh_43 rfl lX0_31 kX2_caseAt iX2_caseAt rfl ⟨_, rfl, rfl⟩ (by decide) (Nat.le_of_ble_eq_true rfl) (Nat.le_of_ble_eq_true rfl) rfl ?_
      refine c_caseAt (by omega) (by rw [n17]; omega) (by omega) (fun b43 b43b => ?_) (fun b43 => absurd b43 (by rw [n17]; omega))
      rw [n16]
      have hx := (jn6 hI _ i hr.1 hr.2 (by omega) (by omega)).1
      rw [Int.mul_comm 6] at hx
      have hy := jn3 hI (M 16 (M 10 k * 6 + i)) (by omega) (by omega)
      refine jr_istore6 (n := 48) dX0_weigh_46 rfl (by decide) rfl ?_
      refine jr_iload (n := 50) dX0_weigh_48 rfl rfl ?_
      refine jr_iconst (n := 51) dX0_weigh_50 rfl ?_
      refine jr_icmp_eq (n := 54) (t := 72) dX0_weigh_51 (by decide) rfl (by omega) (by omega) (fun b51 => ?_) (fun b51 => ?_)
      · exact absurd b51 (by omega)
      · refine jr_aload_n (n := 55) dX0_weigh_54 rfl rfl ?_
        refine jr_aload_n (n := 56) dX0_weigh_55 rfl rfl ?_
        refine jr_getR (n := 59) dX0_weigh_56 rfl fX0_35 rfl (by decide) (by decide) rfl ?_
        refine jr_iload (n := 61) dX0_weigh_59 rfl rfl ?_
        refine jr_iald (n := 62) dX0_weigh_61 rfl rfl (by decide) (by omega) (by omega) ?_
        rw [n11]
        refine jr_aload_n (n := 63) dX0_weigh_62 rfl rfl ?_
        refine jr_getR (n := 66) dX0_weigh_63 rfl fX0_38 rfl (by decide) (by decide) rfl ?_
        refine jr_iload (n := 68) dX0_weigh_66 rfl rfl ?_
        refine jr_iald (n := 69) dX0_weigh_68 rfl rfl (by decide) (by omega) (by omega) ?_
        rw [n12]
        refine jr_cV2 (n := 72) (ci := 0) (ν := mX0_putAhead) dX0_weigh_69 rfl lX0_41 kX0_putAhead iX0_putAhead rfl ⟨_, rfl, rfl⟩ (by decide) (Nat.le_of_ble_eq_true rfl) (Nat.le_of_ble_eq_true rfl) rfl ?_
        refine c_putAhead hy.2.1 hy.2.2.1 ?_
        refine jr_iinc5 (n := 75) dX0_weigh_72 rfl (by decide) rfl ?_
        refine jr_goto (t := 32) dX0_weigh_75 (by decide) ?_
        have k9 := ih (i + 1) (jblk N 21 0 49 (jws (N 21) (M 11 (M 16 (M 10 k * 6 + i))) (M 12 (M 16 (M 10 k * 6 + i))))) (by omega) (by omega) (hN.blk (by omega) (by omega)) (fun t t0 t1 => by
          rw [jblk_in ⟨t0, t1⟩, show (i + 1).toNat = i.toNat + 1 by omega]
          show _ = jws (jwt (M 16) (M 11) (M 12) (6 * M 10 k) i.toNat) (M 11 (M 16 (6 * M 10 k + ((i.toNat : Nat) : Int)))) (M 12 (M 16 (6 * M 10 k + ((i.toNat : Nat) : Int)))) t
          rw [show ((i.toNat : Nat) : Int) = i by omega, Int.mul_comm 6 (M 10 k)]
          rw [Int.mul_comm 6 (M 10 k)] at hw
          exact jws_cong hw hy.2.1.1 t t0 t1) (by omega)
        exact jr_drop k9 ⟨Or.inr rfl, Or.inr rfl, Or.inr rfl, Or.inr rfl, Or.inr rfl, Or.inr rfl, Or.inl rfl, trivial⟩

theorem c_weigh {G : jG} {d : Nat} {M : jMem} {Q : Option Value → jMem → Prop} (hI : jK M) {k p : Int} (hk : 0 ≤ k ∧ k < M 1 8) (hp : jpl M k p) (h : ∀ N, jFC M N → (∀ t, 0 ≤ t → t < 49 → N 21 t = jwt (M 16) (M 11) (M 12) (6 * M 10 k) p.toNat t) → Q none N)  : jN G mX0_weigh (d + 2) [.ref (jad G 3), .ref (jad G 1), .int (jI k)] M Q := by
  show jM G mX0_weigh (d + 2) 0 [.ref (jad G 3), .ref (jad G 1), .int (jI k), .null, .null, .null, .null] [] M Q
  have hz := jn1 hI
  have hp0 := hp.1
  have hp1 := hp.2.1
  have hr := (jn3 hI k (by omega) (by omega)).1
  have hs := jn2 hI _ hr.1 hr.2
  refine jr_aload_n (n := 1) dX0_weigh_0 rfl rfl ?_
  refine jr_getR (n := 4) dX0_weigh_1 rfl fX0_9 rfl (by decide) (by decide) rfl ?_
  refine jr_lconst (n := 5) (x := 0) dX0_weigh_4 rfl (by decide) ?_
  refine jr_cS2 (n := 8) (ν := mJ7_fill_d0a16) dX0_weigh_5 rfl lX0_15 kJ7_fill_d0a16 iJ7_fill_d0a16 (Nat.le_of_ble_eq_true rfl) (Nat.le_of_ble_eq_true rfl) rfl ?_
  refine c_fillL rfl (by decide) ?_
  refine jr_aload_n (n := 9) dX0_weigh_8 rfl rfl ?_
  refine jr_getR (n := 12) dX0_weigh_9 rfl fX0_9 rfl (by decide) (by decide) rfl ?_
  refine jr_iconst (n := 13) dX0_weigh_12 rfl ?_
  refine jr_lconst (n := 14) (x := 1) dX0_weigh_13 rfl (by decide) ?_
  refine jr_last (n := 15) dX0_weigh_14 rfl rfl (by decide) (by omega) (by omega) ?_
  refine jr_aload_n (n := 16) dX0_weigh_15 rfl rfl ?_
  refine jr_getR (n := 19) dX0_weigh_16 rfl fX0_21 rfl (by decide) (by decide) rfl ?_
  refine jr_iload_n (n := 20) dX0_weigh_19 rfl rfl ?_
  refine jr_iald (n := 21) dX0_weigh_20 rfl rfl (by decide) (by omega) (by omega) ?_
  rw [jup_ne (show (10 : Nat) ≠ 21 by decide), jblk_ne (show (10 : Nat) ≠ 21 by decide)]
  refine jr_istore3 (n := 22) dX0_weigh_21 rfl (by decide) rfl ?_
  refine jr_aload_n (n := 23) dX0_weigh_22 rfl rfl ?_
  refine jr_iload_n (n := 24) dX0_weigh_23 rfl rfl ?_
  refine jr_cV1 (n := 27) (ci := 2) (ν := mX2_placeOf) dX0_weigh_24 rfl lX0_27 kX2_placeOf iX2_placeOf rfl ⟨_, rfl, rfl⟩ (by decide) (Nat.le_of_ble_eq_true rfl) (Nat.le_of_ble_eq_true rfl) rfl ?_
  have f9 : jFC M (jup (jblk M 21 0 ((49 : Nat) : Int) (fun _ => 0)) 21 0 1) := (jFC.rf.blk (by omega) (by omega)).up (Or.inr (by omega))
  have n10 := f9 10 (by decide) (by decide)
  have n16 := f9 16 (by decide) (by decide)
  have n17 := f9 17 (by decide) (by decide)
  refine c_placeOf (p := p) (by omega) (by rw [n10]; exact hr) (by rw [n10, n17]; exact hs.2) (by rw [n10, n16, n17]; exact jpl_R hI (by omega) (by omega)) (by unfold jpl; rw [n10, n16, n17]; exact hp) ?_
  refine jr_istore4 (n := 29) dX0_weigh_27 rfl (by decide) rfl ?_
  refine jr_iconst (n := 30) dX0_weigh_29 rfl ?_
  refine jr_istore5 (n := 32) dX0_weigh_30 rfl (by decide) rfl ?_
  exact c_weigh_l hI hk hp h (p.toNat + 1) 0 _ (by omega) (by omega) f9 (fun t t0 t1 => by
    show jup (jblk M 21 0 ((49 : Nat) : Int) (fun _ => 0)) 21 0 1 21 t = if t = 0 then 1 else 0
    by_cases e : t = 0
    · rw [e, jup_at, if_pos rfl]
    · rw [jup_off e, jblk_in (by omega), if_neg e]) (by omega)

theorem c_costAt_l {G : jG} {d : Nat} {M : jMem} {Q : Option Value → jMem → Prop} {q A B : Int} (hq : 0 ≤ q ∧ q ≤ 48) (h : Q (some (.long (jL (jcst (M 21) q A B)))) M)  : ∀ (f : Nat) (i : Int), 0 ≤ i → i ≤ 49 → 49 - i < f → jM G mX0_costAt (d) 6 [.ref (jad G 3), .int (jI q), .long (jL A), .null, .long (jL B), .null, .long (jL (jsum (jct (M 21) q A B) i.toNat)), .null, .int (jI i), .null, .null] [] (M) Q := by
  intro f
  induction f with
  | zero =>
    intro i h0 h1 hf
    exact absurd hf (by omega)
  | succ f ih =>
    intro i h0 h1 hf
    refine jr_iload (n := 8) dX0_costAt_6 rfl rfl ?_
    refine jr_bipush (n := 10) dX0_costAt_8 rfl (by decide) ?_
    refine jr_icmp_gt (n := 13) (t := 60) dX0_costAt_10 (by decide) rfl (by omega) (by omega) (fun b10 => ?_) (fun b10 => ?_)
    · refine jr_lload (n := 62) dX0_costAt_60 rfl rfl ?_
      refine jr_lret dX0_costAt_62 rfl ?_
      have e : i = 49 := by omega
      subst e
      exact h
    · refine jr_iload (n := 15) dX0_costAt_13 rfl rfl ?_
      refine jr_iload_n (n := 16) dX0_costAt_15 rfl rfl ?_
      refine jr_icmp_le (n := 19) (t := 29) dX0_costAt_16 (by decide) rfl (by omega) (by omega) (fun b16 => ?_) (fun b16 => ?_)
      · refine jr_iload_n (n := 30) dX0_costAt_29 rfl rfl ?_
        refine jr_iload (n := 32) dX0_costAt_30 rfl rfl ?_
        refine jr_isub (n := 33) dX0_costAt_32 rfl ?_
        refine jr_i2l (n := 34) dX0_costAt_33 rfl (by omega) ?_
        refine jr_lload (n := 36) dX0_costAt_34 rfl rfl ?_
        refine jr_lmul (n := 37) dX0_costAt_36 rfl ?_
        refine jr_lstore9 (n := 39) dX0_costAt_37 rfl (by decide) rfl ?_
        refine jr_lload (n := 41) dX0_costAt_39 rfl rfl ?_
        refine jr_aload_n (n := 42) dX0_costAt_41 rfl rfl ?_
        refine jr_getR (n := 45) dX0_costAt_42 rfl fX0_9 rfl (by decide) (by decide) rfl ?_
        refine jr_iload (n := 47) dX0_costAt_45 rfl rfl ?_
        refine jr_lald (n := 48) dX0_costAt_47 rfl rfl (by decide) (by omega) (by omega) ?_
        refine jr_lload (n := 50) dX0_costAt_48 rfl rfl ?_
        refine jr_lmul (n := 51) dX0_costAt_50 rfl ?_
        refine jr_ladd (n := 52) dX0_costAt_51 rfl ?_
        refine jr_lstore6 (n := 54) dX0_costAt_52 rfl (by decide) rfl ?_
        refine jr_iinc8 (n := 57) dX0_costAt_54 rfl (by decide) rfl ?_
        refine jr_goto (t := 6) dX0_costAt_57 (by decide) ?_
        have e := jsum_s (jct (M 21) q A B) h0
        first
          | (rw [show jct (M 21) q A B i = M 21 i * ((i - q) * A) by unfold jct; rw [if_pos (by omega)]] at e; rw [← e]; exact jr_drop (ih (i + 1) (by omega) (by omega) (by omega)) ⟨Or.inr rfl, Or.inr rfl, Or.inr rfl, Or.inr rfl, Or.inr rfl, Or.inr rfl, Or.inr rfl, Or.inr rfl, Or.inr rfl, Or.inl rfl, Or.inl rfl, trivial⟩)
          | (rw [show jct (M 21) q A B i = M 21 i * ((q - i) * B) by unfold jct; rw [if_neg (by omega)]] at e; rw [← e]; exact jr_drop (ih (i + 1) (by omega) (by omega) (by omega)) ⟨Or.inr rfl, Or.inr rfl, Or.inr rfl, Or.inr rfl, Or.inr rfl, Or.inr rfl, Or.inr rfl, Or.inr rfl, Or.inr rfl, Or.inl rfl, Or.inl rfl, trivial⟩)
      · refine jr_iload (n := 21) dX0_costAt_19 rfl rfl ?_
        refine jr_iload_n (n := 22) dX0_costAt_21 rfl rfl ?_
        refine jr_isub (n := 23) dX0_costAt_22 rfl ?_
        refine jr_i2l (n := 24) dX0_costAt_23 rfl (by omega) ?_
        refine jr_lload_n (n := 25) dX0_costAt_24 rfl rfl ?_
        refine jr_lmul (n := 26) dX0_costAt_25 rfl ?_
        refine jr_goto (t := 37) dX0_costAt_26 (by decide) ?_
        refine jr_lstore9 (n := 39) dX0_costAt_37 rfl (by decide) rfl ?_
        refine jr_lload (n := 41) dX0_costAt_39 rfl rfl ?_
        refine jr_aload_n (n := 42) dX0_costAt_41 rfl rfl ?_
        refine jr_getR (n := 45) dX0_costAt_42 rfl fX0_9 rfl (by decide) (by decide) rfl ?_
        refine jr_iload (n := 47) dX0_costAt_45 rfl rfl ?_
        refine jr_lald (n := 48) dX0_costAt_47 rfl rfl (by decide) (by omega) (by omega) ?_
        refine jr_lload (n := 50) dX0_costAt_48 rfl rfl ?_
        refine jr_lmul (n := 51) dX0_costAt_50 rfl ?_
        refine jr_ladd (n := 52) dX0_costAt_51 rfl ?_
        refine jr_lstore6 (n := 54) dX0_costAt_52 rfl (by decide) rfl ?_
        refine jr_iinc8 (n := 57) dX0_costAt_54 rfl (by decide) rfl ?_
        refine jr_goto (t := 6) dX0_costAt_57 (by decide) ?_
        have e := jsum_s (jct (M 21) q A B) h0
        first
          | (rw [show jct (M 21) q A B i = M 21 i * ((i - q) * A) by unfold jct; rw [if_pos (by omega)]] at e; rw [← e]; exact jr_drop (ih (i + 1) (by omega) (by omega) (by omega)) ⟨Or.inr rfl, Or.inr rfl, Or.inr rfl, Or.inr rfl, Or.inr rfl, Or.inr rfl, Or.inr rfl, Or.inr rfl, Or.inr rfl, Or.inl rfl, Or.inl rfl, trivial⟩)
          | (rw [show jct (M 21) q A B i = M 21 i * ((q - i) * B) by unfold jct; rw [if_neg (by omega)]] at e; rw [← e]; exact jr_drop (ih (i + 1) (by omega) (by omega) (by omega)) ⟨Or.inr rfl, Or.inr rfl, Or.inr rfl, Or.inr rfl, Or.inr rfl, Or.inr rfl, Or.inr rfl, Or.inr rfl, Or.inr rfl, Or.inl rfl, Or.inl rfl, trivial⟩)

theorem c_costAt {G : jG} {d : Nat} {M : jMem} {Q : Option Value → jMem → Prop} {q A B : Int} (hq : 0 ≤ q ∧ q ≤ 48) (h : Q (some (.long (jL (jcst (M 21) q A B)))) M) : jN G mX0_costAt (d) [.ref (jad G 3), .int (jI q), .long (jL A), .long (jL B)] M Q := by
  show jM G mX0_costAt (d) 0 [.ref (jad G 3), .int (jI q), .long (jL A), .null, .long (jL B), .null, .null, .null, .null, .null, .null] [] M Q
  refine jr_lconst (n := 1) (x := 0) dX0_costAt_0 rfl (by decide) ?_
  refine jr_lstore6 (n := 3) dX0_costAt_1 rfl (by decide) rfl ?_
  refine jr_iconst (n := 4) dX0_costAt_3 rfl ?_
  refine jr_istore8 (n := 6) dX0_costAt_4 rfl (by decide) rfl ?_
  exact c_costAt_l hq h 50 0 (by omega) (by omega) (by omega)

theorem c_cheap_l {G : jG} {d : Nat} {M : jMem} {Q : Option Value → jMem → Prop} {a A B : Int} (ha : 0 ≤ a ∧ a ≤ 48) (h : Q (some (.int (jI (jbs (M 21) A B a (48 - a).toNat).1))) M)  : ∀ (f : Nat) (n : Nat), a + n ≤ 48 → 48 - a - n < f → jM G mX0_cheapestFrom (d + 1) 18 [.ref (jad G 3), .int (jI a), .long (jL A), .null, .long (jL B), .null, .int (jI (jbs (M 21) A B a n).1), .long (jL (jbs (M 21) A B a n).2), .null, .int (jI (a + 1 + (n : Int))), .null, .null] [] (M) Q := by
  intro f
  induction f with
  | zero =>
    intro n h1 hf
    exact absurd hf (by omega)
  | succ f ih =>
    intro n h1 hf
    refine jr_iload (n := 20) dX0_cheapestFrom_18 rfl rfl ?_
    refine jr_bipush (n := 22) dX0_cheapestFrom_20 rfl (by decide) ?_
    refine jr_icmp_gt (n := 25) (t := 58) dX0_cheapestFrom_22 (by decide) rfl (by omega) (by omega) (fun b22 => ?_) (fun b22 => ?_)
    · refine jr_iload (n := 60) dX0_cheapestFrom_58 rfl rfl ?_
      refine jr_iret dX0_cheapestFrom_60 rfl ?_
      have e : n = (48 - a).toNat := by omega
      subst e
      exact h
    · refine jr_aload_n (n := 26) dX0_cheapestFrom_25 rfl rfl ?_
      refine jr_iload (n := 28) dX0_cheapestFrom_26 rfl rfl ?_
      refine jr_lload_n (n := 29) dX0_cheapestFrom_28 rfl rfl ?_
      refine jr_lload (n := 31) dX0_cheapestFrom_29 rfl rfl ?_
      refine jr_cV3 (n := 34) (ci := 0) (ν := mX0_costAt) dX0_cheapestFrom_31 rfl lX0_45 kX0_costAt iX0_costAt rfl ⟨_, rfl, rfl⟩ (by decide) (Nat.le_of_ble_eq_true rfl) (Nat.le_of_ble_eq_true rfl) rfl ?_
      refine c_costAt (by omega) ?_
      refine jr_lstore10 (n := 36) dX0_cheapestFrom_34 rfl (by decide) rfl ?_
      refine jr_lload (n := 38) dX0_cheapestFrom_36 rfl rfl ?_
      refine jr_lload (n := 40) dX0_cheapestFrom_38 rfl rfl ?_
      refine jr_lcmp (n := 41) dX0_cheapestFrom_40 rfl ?_
      refine jr_if_ge (n := 44) (t := 52) dX0_cheapestFrom_41 (by decide) rfl (jlc_R _ _) (fun b41 => ?_) (fun b41 => ?_)
      · refine jr_iinc9 (n := 55) dX0_cheapestFrom_52 rfl (by decide) rfl ?_
        refine jr_goto (t := 18) dX0_cheapestFrom_55 (by decide) ?_
        have k9 := ih (n + 1) (by omega) (by omega)
        rw [show a + 1 + ((n + 1 : Nat) : Int) = a + 1 + (n : Int) + 1 by omega] at k9
        unfold jbs at k9
        first
          | (rw [if_pos b41] at k9; exact jr_drop k9 ⟨Or.inr rfl, Or.inr rfl, Or.inr rfl, Or.inr rfl, Or.inr rfl, Or.inr rfl, Or.inr rfl, Or.inr rfl, Or.inr rfl, Or.inr rfl, Or.inl rfl, Or.inl rfl, trivial⟩)
          | (rw [if_neg (by omega)] at k9; exact jr_drop k9 ⟨Or.inr rfl, Or.inr rfl, Or.inr rfl, Or.inr rfl, Or.inr rfl, Or.inr rfl, Or.inr rfl, Or.inr rfl, Or.inr rfl, Or.inr rfl, Or.inl rfl, Or.inl rfl, trivial⟩)
      · refine jr_lload (n := 46) dX0_cheapestFrom_44 rfl rfl ?_
        refine jr_lstore7 (n := 48) dX0_cheapestFrom_46 rfl (by decide) rfl ?_
        refine jr_iload (n := 50) dX0_cheapestFrom_48 rfl rfl ?_
        refine jr_istore6 (n := 52) dX0_cheapestFrom_50 rfl (by decide) rfl ?_
        refine jr_iinc9 (n := 55) dX0_cheapestFrom_52 rfl (by decide) rfl ?_
        refine jr_goto (t := 18) dX0_cheapestFrom_55 (by decide) ?_
        have k9 := ih (n + 1) (by omega) (by omega)
        rw [show a + 1 + ((n + 1 : Nat) : Int) = a + 1 + (n : Int) + 1 by omega] at k9
        unfold jbs at k9
        first
          | (rw [if_pos b41] at k9; exact jr_drop k9 ⟨Or.inr rfl, Or.inr rfl, Or.inr rfl, Or.inr rfl, Or.inr rfl, Or.inr rfl, Or.inr rfl, Or.inr rfl, Or.inr rfl, Or.inr rfl, Or.inl rfl, Or.inl rfl, trivial⟩)
          | (rw [if_neg (by omega)] at k9; exact jr_drop k9 ⟨Or.inr rfl, Or.inr rfl, Or.inr rfl, Or.inr rfl, Or.inr rfl, Or.inr rfl, Or.inr rfl, Or.inr rfl, Or.inr rfl, Or.inr rfl, Or.inl rfl, Or.inl rfl, trivial⟩)

theorem c_cheapestFrom {G : jG} {d : Nat} {M : jMem} {Q : Option Value → jMem → Prop} {a A B : Int} (ha : 0 ≤ a ∧ a ≤ 48) (h : Q (some (.int (jI (jbs (M 21) A B a (48 - a).toNat).1))) M) : jN G mX0_cheapestFrom (d + 1) [.ref (jad G 3), .int (jI a), .long (jL A), .long (jL B)] M Q := by
  show jM G mX0_cheapestFrom (d + 1) 0 [.ref (jad G 3), .int (jI a), .long (jL A), .null, .long (jL B), .null, .null, .null, .null, .null, .null, .null] [] M Q
  refine jr_iload_n (n := 1) dX0_cheapestFrom_0 rfl rfl ?_
  refine jr_istore6 (n := 3) dX0_cheapestFrom_1 rfl (by decide) rfl ?_
  refine jr_aload_n (n := 4) dX0_cheapestFrom_3 rfl rfl ?_
  refine jr_iload_n (n := 5) dX0_cheapestFrom_4 rfl rfl ?_
  refine jr_lload_n (n := 6) dX0_cheapestFrom_5 rfl rfl ?_
  refine jr_lload (n := 8) dX0_cheapestFrom_6 rfl rfl ?_
  refine jr_cV3 (n := 11) (ci := 0) (ν := mX0_costAt) dX0_cheapestFrom_8 rfl lX0_45 kX0_costAt iX0_costAt rfl ⟨_, rfl, rfl⟩ (by decide) (Nat.le_of_ble_eq_true rfl) (Nat.le_of_ble_eq_true rfl) rfl ?_
  refine c_costAt (by omega) ?_
  refine jr_lstore7 (n := 13) dX0_cheapestFrom_11 rfl (by decide) rfl ?_
  refine jr_iload_n (n := 14) dX0_cheapestFrom_13 rfl rfl ?_
  refine jr_iconst (n := 15) dX0_cheapestFrom_14 rfl ?_
  refine jr_iadd (n := 16) dX0_cheapestFrom_15 rfl ?_
  refine jr_istore9 (n := 18) dX0_cheapestFrom_16 rfl (by decide) rfl ?_
  have k9 := c_cheap_l (G := G) (d := d) ha h 50 0 (by omega) (by omega)
  rw [show a + 1 + ((0 : Nat) : Int) = a + 1 by omega] at k9
  exact k9

theorem c_waitPrice_l {G : jG} {d : Nat} {M : jMem} {Q : Option Value → jMem → Prop} (hI : jK M) {k : Int} (hk : 0 ≤ k ∧ k < 12) (h : Q (some (.long (jL (jsum (jwp (M 13 k) (M 18)) (M 2 3).toNat * M 9 0)))) M)  : ∀ (f : Nat) (i : Int), 0 ≤ i → i ≤ M 2 3 → M 2 3 - i < f → jM G mX7_waitPrice (d + 2) 4 [.ref (jad G 0), .int (jI k), .int (jI (jsum (jwp (M 13 k) (M 18)) i.toNat)), .int (jI i)] [] (M) Q := by
  intro f
  induction f with
  | zero =>
    intro i h0 h1 hf
    exact absurd hf (by omega)
  | succ f ih =>
    intro i h0 h1 hf
    have hz := jn1 hI
    have hb := jwp_b (M := M) (s := M 13 k) hz.2.1 (fun v v0 v1 => (jn9 hI v v0 v1).1) h0 h1
    have hu := jn11 hI 0 (by omega) (by omega)
    refine jr_iload_n (n := 5) dX7_waitPrice_4 rfl rfl ?_
    refine jr_aload_n (n := 6) dX7_waitPrice_5 rfl rfl ?_
    refine jr_getR (n := 9) dX7_waitPrice_6 rfl fX7_19 rfl (by decide) (by decide) rfl ?_
    refine jr_getI (n := 12) (i := 3) rfl dX7_waitPrice_9 rfl fX7_85 rfl (by decide) (by decide) rfl ?_
    refine jr_icmp_ge (n := 15) (t := 49) dX7_waitPrice_12 (by decide) rfl (by omega) (by omega) (fun b12 => ?_) (fun b12 => ?_)
    · refine jr_iload_n (n := 50) dX7_waitPrice_49 rfl rfl ?_
      refine jr_i2l (n := 51) dX7_waitPrice_50 rfl (by omega) ?_
      refine jr_aload_n (n := 52) dX7_waitPrice_51 rfl rfl ?_
      refine jr_getR (n := 55) dX7_waitPrice_52 rfl fX7_58 rfl (by decide) (by decide) rfl ?_
      refine jr_iconst (n := 56) dX7_waitPrice_55 rfl ?_
      refine jr_iald (n := 57) dX7_waitPrice_56 rfl rfl (by decide) (by omega) (by omega) ?_
      refine jr_i2l (n := 58) dX7_waitPrice_57 rfl (by omega) ?_
      refine jr_lmul (n := 59) dX7_waitPrice_58 rfl ?_
      refine jr_lret dX7_waitPrice_59 rfl ?_
      have e : i = M 2 3 := by omega
      subst e
      exact h
    · refine jr_aload_n (n := 16) dX7_waitPrice_15 rfl rfl ?_
      refine jr_getR (n := 19) dX7_waitPrice_16 rfl fX7_10 rfl (by decide) (by decide) rfl ?_
      refine jr_iload_n (n := 20) dX7_waitPrice_19 rfl rfl ?_
      refine jr_iload_n (n := 21) dX7_waitPrice_20 rfl rfl ?_
      refine jr_cV2 (n := 24) (ci := 2) (ν := mX2_hasNeedOf) dX7_waitPrice_21 rfl lX7_163 kX2_hasNeedOf iX2_hasNeedOf rfl ⟨_, rfl, rfl⟩ (by decide) (Nat.le_of_ble_eq_true rfl) (Nat.le_of_ble_eq_true rfl) rfl ?_
      refine c_hasNeedOf (by omega) (fun b21 => ?_) (fun b21 => ?_)
      · refine jr_ifF_eq (n := 27) (t := 43) dX7_waitPrice_24 rfl (by decide) (by decide) (by decide) ?_
        have hr := (jn9 hI i (by omega) (by omega)).1
        refine jr_iload_n (n := 28) dX7_waitPrice_27 rfl rfl ?_
        refine jr_gets (n := 31) (t := 0) dX7_waitPrice_28 rfl (by decide) sX7_292 ?_
        refine jr_aload_n (n := 32) dX7_waitPrice_31 rfl rfl ?_
        refine jr_getR (n := 35) dX7_waitPrice_32 rfl fX7_19 rfl (by decide) (by decide) rfl ?_
        refine jr_getR (n := 38) dX7_waitPrice_35 rfl fX7_92 rfl (by decide) (by decide) rfl ?_
        refine jr_iload_n (n := 39) dX7_waitPrice_38 rfl rfl ?_
        refine jr_iald (n := 40) dX7_waitPrice_39 rfl rfl (by decide) (by omega) (by omega) ?_
        refine jr_sald (n := 41) dX7_waitPrice_40 rfl (by decide) (by omega) (by omega) ?_
        refine jr_iadd (n := 42) dX7_waitPrice_41 rfl ?_
        refine jr_istore2 (n := 43) dX7_waitPrice_42 rfl (by decide) rfl ?_
        refine jr_iinc3 (n := 46) dX7_waitPrice_43 rfl (by decide) rfl ?_
        refine jr_goto (t := 4) dX7_waitPrice_46 (by decide) ?_
        have e := jsum_s (jwp (M 13 k) (M 18)) h0
        first
          | (rw [show (jwp (M 13 k) (M 18)) i = jsv 0 (M 18 i) from if_pos b21] at e; rw [← e]; exact ih (i + 1) (by omega) (by omega) (by omega))
          | (rw [show (jwp (M 13 k) (M 18)) i = 0 from if_neg b21, Int.add_zero] at e; rw [← e]; exact ih (i + 1) (by omega) (by omega) (by omega))
      · refine jr_ifT_eq (t := 43) dX7_waitPrice_24 (by decide) (by decide) (by decide) ?_
        refine jr_iinc3 (n := 46) dX7_waitPrice_43 rfl (by decide) rfl ?_
        refine jr_goto (t := 4) dX7_waitPrice_46 (by decide) ?_
        have e := jsum_s (jwp (M 13 k) (M 18)) h0
        first
          | (rw [show (jwp (M 13 k) (M 18)) i = jsv 0 (M 18 i) from if_pos b21] at e; rw [← e]; exact ih (i + 1) (by omega) (by omega) (by omega))
          | (rw [show (jwp (M 13 k) (M 18)) i = 0 from if_neg b21, Int.add_zero] at e; rw [← e]; exact ih (i + 1) (by omega) (by omega) (by omega))

theorem c_waitPrice {G : jG} {d : Nat} {M : jMem} {Q : Option Value → jMem → Prop} (hI : jK M) {k : Int} (hk : 0 ≤ k ∧ k < 12) (h : Q (some (.long (jL (jsum (jwp (M 13 k) (M 18)) (M 2 3).toNat * M 9 0)))) M) : jN G mX7_waitPrice (d + 2) [.ref (jad G 0), .int (jI k)] M Q := by
  show jM G mX7_waitPrice (d + 2) 0 [.ref (jad G 0), .int (jI k), .null, .null] [] M Q
  have hz := jn1 hI
  refine jr_iconst (n := 1) dX7_waitPrice_0 rfl ?_
  refine jr_istore2 (n := 2) dX7_waitPrice_1 rfl (by decide) rfl ?_
  refine jr_iconst (n := 3) dX7_waitPrice_2 rfl ?_
  refine jr_istore3 (n := 4) dX7_waitPrice_3 rfl (by decide) rfl ?_
  exact c_waitPrice_l hI hk h ((M 2 3).toNat + 1) 0 (by omega) (by omega) (by omega)

theorem c_greatestWay_l {G : jG} {d : Nat} {M : jMem} {Q : Option Value → jMem → Prop} (hI : jK M) {k : Int} (hk : 0 ≤ k ∧ k < 12) (h : Q (some (.int (jI (jgw (M 13 k) (M 19) (M 2 3).toNat)))) M)  : ∀ (f : Nat) (i : Int), 0 ≤ i → i ≤ M 2 3 → M 2 3 - i < f → jM G mX7_greatestWay (d + 2) 4 [.ref (jad G 0), .int (jI k), .int (jI (jgw (M 13 k) (M 19) i.toNat)), .int (jI i)] [] (M) Q := by
  intro f
  induction f with
  | zero =>
    intro i h0 h1 hf
    exact absurd hf (by omega)
  | succ f ih =>
    intro i h0 h1 hf
    have hz := jn1 hI
    have hb := jgw_b (s := M 13 k) (wa := M 19) i.toNat (fun v v0 v1 => (jn9 hI v v0 (by omega)).2.1)
    refine jr_iload_n (n := 5) dX7_greatestWay_4 rfl rfl ?_
    refine jr_aload_n (n := 6) dX7_greatestWay_5 rfl rfl ?_
    refine jr_getR (n := 9) dX7_greatestWay_6 rfl fX7_19 rfl (by decide) (by decide) rfl ?_
    refine jr_getI (n := 12) (i := 3) rfl dX7_greatestWay_9 rfl fX7_85 rfl (by decide) (by decide) rfl ?_
    refine jr_icmp_ge (n := 15) (t := 47) dX7_greatestWay_12 (by decide) rfl (by omega) (by omega) (fun b12 => ?_) (fun b12 => ?_)
    · refine jr_iload_n (n := 48) dX7_greatestWay_47 rfl rfl ?_
      refine jr_iret dX7_greatestWay_48 rfl ?_
      have e : i = M 2 3 := by omega
      subst e
      exact h
    · refine jr_aload_n (n := 16) dX7_greatestWay_15 rfl rfl ?_
      refine jr_getR (n := 19) dX7_greatestWay_16 rfl fX7_10 rfl (by decide) (by decide) rfl ?_
      refine jr_iload_n (n := 20) dX7_greatestWay_19 rfl rfl ?_
      refine jr_iload_n (n := 21) dX7_greatestWay_20 rfl rfl ?_
      refine jr_cV2 (n := 24) (ci := 2) (ν := mX2_hasNeedOf) dX7_greatestWay_21 rfl lX7_163 kX2_hasNeedOf iX2_hasNeedOf rfl ⟨_, rfl, rfl⟩ (by decide) (Nat.le_of_ble_eq_true rfl) (Nat.le_of_ble_eq_true rfl) rfl ?_
      refine c_hasNeedOf (by omega) (fun b21 => ?_) (fun b21 => ?_)
      · refine jr_ifF_eq (n := 27) (t := 41) dX7_greatestWay_24 rfl (by decide) (by decide) (by decide) ?_
        have hr := (jn9 hI i (by omega) (by omega)).2.1
        refine jr_iload_n (n := 28) dX7_greatestWay_27 rfl rfl ?_
        refine jr_aload_n (n := 29) dX7_greatestWay_28 rfl rfl ?_
        refine jr_getR (n := 32) dX7_greatestWay_29 rfl fX7_19 rfl (by decide) (by decide) rfl ?_
        refine jr_getR (n := 35) dX7_greatestWay_32 rfl fX7_107 rfl (by decide) (by decide) rfl ?_
        refine jr_iload_n (n := 36) dX7_greatestWay_35 rfl rfl ?_
        refine jr_iald (n := 37) dX7_greatestWay_36 rfl rfl (by decide) (by omega) (by omega) ?_
        refine jr_max (n := 40) dX7_greatestWay_37 rfl lX7_295 (by omega) (by omega) (Nat.le_of_ble_eq_true rfl) ⟨Nat.le_add_left _ _, Nat.le_add_left _ _⟩ ⟨Nat.le_refl _, Nat.le_refl _⟩ ?_
        refine jr_istore2 (n := 41) dX7_greatestWay_40 rfl (by decide) rfl ?_
        refine jr_iinc3 (n := 44) dX7_greatestWay_41 rfl (by decide) rfl ?_
        refine jr_goto (t := 4) dX7_greatestWay_44 (by decide) ?_
        have e := jgw_s (M 13 k) (M 19) h0
        first
          | (rw [if_pos b21] at e; rw [← e]; exact ih (i + 1) (by omega) (by omega) (by omega))
          | (rw [if_neg b21] at e; rw [← e]; exact ih (i + 1) (by omega) (by omega) (by omega))
      · refine jr_ifT_eq (t := 41) dX7_greatestWay_24 (by decide) (by decide) (by decide) ?_
        refine jr_iinc3 (n := 44) dX7_greatestWay_41 rfl (by decide) rfl ?_
        refine jr_goto (t := 4) dX7_greatestWay_44 (by decide) ?_
        have e := jgw_s (M 13 k) (M 19) h0
        first
          | (rw [if_pos b21] at e; rw [← e]; exact ih (i + 1) (by omega) (by omega) (by omega))
          | (rw [if_neg b21] at e; rw [← e]; exact ih (i + 1) (by omega) (by omega) (by omega))

theorem c_greatestWay {G : jG} {d : Nat} {M : jMem} {Q : Option Value → jMem → Prop} (hI : jK M) {k : Int} (hk : 0 ≤ k ∧ k < 12) (h : Q (some (.int (jI (jgw (M 13 k) (M 19) (M 2 3).toNat)))) M) : jN G mX7_greatestWay (d + 2) [.ref (jad G 0), .int (jI k)] M Q := by
  show jM G mX7_greatestWay (d + 2) 0 [.ref (jad G 0), .int (jI k), .null, .null] [] M Q
  have hz := jn1 hI
  refine jr_iconst (n := 1) dX7_greatestWay_0 rfl ?_
  refine jr_istore2 (n := 2) dX7_greatestWay_1 rfl (by decide) rfl ?_
  refine jr_iconst (n := 3) dX7_greatestWay_2 rfl ?_
  refine jr_istore3 (n := 4) dX7_greatestWay_3 rfl (by decide) rfl ?_
  exact c_greatestWay_l hI hk h ((M 2 3).toNat + 1) 0 (by omega) (by omega) (by omega)

theorem jcst_cong {u v : Int → Int} {q A B : Int} (h : ∀ t, 0 ≤ t → t < 49 → u t = v t) : jcst u q A B = jcst v q A B := jsum_congr 49 (fun t t0 t1 => by unfold jct; rw [h t t0 t1])
theorem jbs_cong {u v : Int → Int} {A B a : Int} (h : ∀ t, 0 ≤ t → t < 49 → u t = v t) : ∀ n : Nat, jbs u A B a n = jbs v A B a n
  | 0 => by unfold jbs; rw [jcst_cong h]
  | n + 1 => by unfold jbs; rw [jbs_cong h n, jcst_cong h]
theorem c_weight {G : jG} {d : Nat} {M : jMem} {Q : Option Value → jMem → Prop} (hI : jK M) {k q : Int} (hk : jR k) (hq : jR q) (hB : ¬ ((0 ≤ k ∧ k < M 1 8) ∧ (0 ≤ q ∧ q ≤ 48)) → Q (some (.long (jL (-9000000000000000001)))) M) (h : 0 ≤ k → k < M 1 8 → 0 ≤ q → q ≤ 48 → ∀ p N, jpl M k p → jFC M N → Q (some (.long (jL (jwt (M 16) (M 11) (M 12) (6 * M 10 k) p.toNat q)))) N) : jN G mX7_weight (d + 3) [.ref (jad G 0), .int (jI k), .int (jI q)] M Q := by
  show jM G mX7_weight (d + 3) 0 [.ref (jad G 0), .int (jI k), .int (jI q)] [] M Q
  have hz := jn1 hI
  refine jr_aload_n (n := 1) dX7_weight_0 rfl rfl ?_
  refine jr_getR (n := 4) dX7_weight_1 rfl fX7_10 rfl (by decide) (by decide) rfl ?_
  refine jr_iload_n (n := 5) dX7_weight_4 rfl rfl ?_
  refine jr_cV1 (n := 8) (ci := 2) (ν := mX2_has) dX7_weight_5 rfl lX7_99 kX2_has iX2_has rfl ⟨_, rfl, rfl⟩ (by decide) (Nat.le_of_ble_eq_true rfl) (Nat.le_of_ble_eq_true rfl) rfl ?_
  refine c_hasC (by omega) (by omega) (fun b5 b5b => ?_) (fun b5 => ?_)
  · refine jr_ifF_eq (n := 11) (t := 18) dX7_weight_8 rfl (by decide) (by decide) (by decide) ?_
    refine jr_iload_n (n := 12) dX7_weight_11 rfl rfl ?_
    refine jr_cS1 (n := 15) (ν := mX7_isQuarter) dX7_weight_12 rfl lX7_141 kX7_isQuarter iX7_isQuarter (Nat.le_of_ble_eq_true rfl) (Nat.le_of_ble_eq_true rfl) rfl ?_
    refine c_isQuarter (by omega) (fun b12 b12b => ?_) (fun b12 => ?_)
    · refine jr_ifT_ne (t := 22) dX7_weight_15 (by decide) (by decide) (by decide) ?_
      refine jr_aload_n (n := 23) dX7_weight_22 rfl rfl ?_
      refine jr_getR (n := 26) dX7_weight_23 rfl fX7_26 rfl (by decide) (by decide) rfl ?_
      refine jr_aload_n (n := 27) dX7_weight_26 rfl rfl ?_
      refine jr_getR (n := 30) dX7_weight_27 rfl fX7_10 rfl (by decide) (by decide) rfl ?_
      refine jr_iload_n (n := 31) dX7_weight_30 rfl rfl ?_
      refine jr_cV2 (n := 34) (ci := 0) (ν := mX0_weigh) dX7_weight_31 rfl lX7_144 kX0_weigh iX0_weigh rfl ⟨_, rfl, rfl⟩ (by decide) (Nat.le_of_ble_eq_true rfl) (Nat.le_of_ble_eq_true rfl) rfl ?_
      obtain ⟨p, hp⟩ := jpl_of hI (k := k) (by omega) (by omega)
      refine c_weigh hI (by omega) hp (fun N hN hw => ?_)
      refine jr_aload_n (n := 35) dX7_weight_34 rfl rfl ?_
      refine jr_getR (n := 38) dX7_weight_35 rfl fX7_26 rfl (by decide) (by decide) rfl ?_
      refine jr_getR (n := 41) dX7_weight_38 rfl fX7_148 rfl (by decide) (by decide) rfl ?_
      refine jr_iload_n (n := 42) dX7_weight_41 rfl rfl ?_
      refine jr_lald (n := 43) dX7_weight_42 rfl rfl (by decide) (by omega) (by omega) ?_
      rw [hw q (by omega) (by omega)]
      refine jr_lret dX7_weight_43 rfl ?_
      first | exact hB (by omega) | exact h (by omega) (by omega) (by omega) (by omega) p N hp hN
    · refine jr_ifF_ne (n := 18) (t := 22) dX7_weight_15 rfl (by decide) (by decide) (by decide) ?_
      refine jr_ldc2 (n := 21) dX7_weight_18 rfl rfl qX7_70 vX7_70 ?_
      refine jr_lret dX7_weight_21 rfl ?_
      first | exact hB (by omega) | exact h (by omega) (by omega) (by omega) (by omega) p N hp hN
  · refine jr_ifT_eq (t := 18) dX7_weight_8 (by decide) (by decide) (by decide) ?_
    refine jr_ldc2 (n := 21) dX7_weight_18 rfl rfl qX7_70 vX7_70 ?_
    refine jr_lret dX7_weight_21 rfl ?_
    first | exact hB (by omega) | exact h (by omega) (by omega) (by omega) (by omega) p N hp hN

theorem c_cost {G : jG} {d : Nat} {M : jMem} {Q : Option Value → jMem → Prop} (hI : jK M) {k q : Int} (hk : jR k) (hq : jR q) (hB : ¬ ((0 ≤ k ∧ k < M 1 8) ∧ (0 ≤ q ∧ q ≤ 48)) → Q (some (.long (jL (-9000000000000000001)))) M) (h : 0 ≤ k → k < M 1 8 → 0 ≤ q → q ≤ 48 → ∀ p N, jpl M k p → jFC M N → Q (some (.long (jL (jcst (jwt (M 16) (M 11) (M 12) (6 * M 10 k) p.toNat) q (jsum (jwp (M 13 k) (M 18)) (M 2 3).toNat * M 9 0) (M 9 1))))) N) : jN G mX7_cost (d + 3) [.ref (jad G 0), .int (jI k), .int (jI q)] M Q := by
  show jM G mX7_cost (d + 3) 0 [.ref (jad G 0), .int (jI k), .int (jI q)] [] M Q
  have hz := jn1 hI
  have hu := jn11 hI 1 (by omega) (by omega)
  refine jr_aload_n (n := 1) dX7_cost_0 rfl rfl ?_
  refine jr_getR (n := 4) dX7_cost_1 rfl fX7_10 rfl (by decide) (by decide) rfl ?_
  refine jr_iload_n (n := 5) dX7_cost_4 rfl rfl ?_
  refine jr_cV1 (n := 8) (ci := 2) (ν := mX2_has) dX7_cost_5 rfl lX7_99 kX2_has iX2_has rfl ⟨_, rfl, rfl⟩ (by decide) (Nat.le_of_ble_eq_true rfl) (Nat.le_of_ble_eq_true rfl) rfl ?_
  refine c_hasC (by omega) (by omega) (fun b5 b5b => ?_) (fun b5 => ?_)
  · refine jr_ifF_eq (n := 11) (t := 18) dX7_cost_8 rfl (by decide) (by decide) (by decide) ?_
    refine jr_iload_n (n := 12) dX7_cost_11 rfl rfl ?_
    refine jr_cS1 (n := 15) (ν := mX7_isQuarter) dX7_cost_12 rfl lX7_141 kX7_isQuarter iX7_isQuarter (Nat.le_of_ble_eq_true rfl) (Nat.le_of_ble_eq_true rfl) rfl ?_
    refine c_isQuarter (by omega) (fun b12 b12b => ?_) (fun b12 => ?_)
    · refine jr_ifT_ne (t := 22) dX7_cost_15 (by decide) (by decide) (by decide) ?_
      refine jr_aload_n (n := 23) dX7_cost_22 rfl rfl ?_
      refine jr_getR (n := 26) dX7_cost_23 rfl fX7_26 rfl (by decide) (by decide) rfl ?_
      refine jr_aload_n (n := 27) dX7_cost_26 rfl rfl ?_
      refine jr_getR (n := 30) dX7_cost_27 rfl fX7_10 rfl (by decide) (by decide) rfl ?_
      refine jr_iload_n (n := 31) dX7_cost_30 rfl rfl ?_
      refine jr_cV2 (n := 34) (ci := 0) (ν := mX0_weigh) dX7_cost_31 rfl lX7_144 kX0_weigh iX0_weigh rfl ⟨_, rfl, rfl⟩ (by decide) (Nat.le_of_ble_eq_true rfl) (Nat.le_of_ble_eq_true rfl) rfl ?_
      obtain ⟨p, hp⟩ := jpl_of hI (k := k) (by omega) (by omega)
      refine c_weigh hI (by omega) hp (fun N hN hw => ?_)
      refine jr_aload_n (n := 35) dX7_cost_34 rfl rfl ?_
      refine jr_getR (n := 38) dX7_cost_35 rfl fX7_26 rfl (by decide) (by decide) rfl ?_
      refine jr_iload_n (n := 39) dX7_cost_38 rfl rfl ?_
      refine jr_aload_n (n := 40) dX7_cost_39 rfl rfl ?_
      refine jr_iload_n (n := 41) dX7_cost_40 rfl rfl ?_
      refine jr_cV1 (n := 44) (ci := 7) (ν := mX7_waitPrice) dX7_cost_41 rfl lX7_152 kX7_waitPrice iX7_waitPrice rfl ⟨_, rfl, rfl⟩ (by decide) (Nat.le_of_ble_eq_true rfl) (Nat.le_of_ble_eq_true rfl) rfl ?_
      have hK := jK_C hN hI
      have n2 := congrFun (hN 2 (by decide) (by decide)) 3
      have n9 := hN 9 (by decide) (by decide)
      have n13 := hN 13 (by decide) (by decide)
      have n18 := hN 18 (by decide) (by decide)
      refine c_waitPrice hK (by omega) ?_
      rw [n2, n9, n13, n18]
      refine jr_aload_n (n := 45) dX7_cost_44 rfl rfl ?_
      refine jr_getR (n := 48) dX7_cost_45 rfl fX7_58 rfl (by decide) (by decide) rfl ?_
      refine jr_iconst (n := 49) dX7_cost_48 rfl ?_
      refine jr_iald (n := 50) dX7_cost_49 rfl rfl (by decide) (by omega) (by omega) ?_
      rw [n9]
      refine jr_i2l (n := 51) dX7_cost_50 rfl (by omega) ?_
      refine jr_cV3 (n := 54) (ci := 0) (ν := mX0_costAt) dX7_cost_51 rfl lX7_156 kX0_costAt iX0_costAt rfl ⟨_, rfl, rfl⟩ (by decide) (Nat.le_of_ble_eq_true rfl) (Nat.le_of_ble_eq_true rfl) rfl ?_
      refine c_costAt (by omega) ?_
      rw [jcst_cong hw]
      refine jr_lret dX7_cost_54 rfl ?_
      first | exact hB (by omega) | exact h (by omega) (by omega) (by omega) (by omega) p N hp hN
    · refine jr_ifF_ne (n := 18) (t := 22) dX7_cost_15 rfl (by decide) (by decide) (by decide) ?_
      refine jr_ldc2 (n := 21) dX7_cost_18 rfl rfl qX7_70 vX7_70 ?_
      refine jr_lret dX7_cost_21 rfl ?_
      first | exact hB (by omega) | exact h (by omega) (by omega) (by omega) (by omega) p N hp hN
  · refine jr_ifT_eq (t := 18) dX7_cost_8 (by decide) (by decide) (by decide) ?_
    refine jr_ldc2 (n := 21) dX7_cost_18 rfl rfl qX7_70 vX7_70 ?_
    refine jr_lret dX7_cost_21 rfl ?_
    first | exact hB (by omega) | exact h (by omega) (by omega) (by omega) (by omega) p N hp hN

theorem c_bestQuarter {G : jG} {d : Nat} {M : jMem} {Q : Option Value → jMem → Prop} (hI : jK M) {k : Int} (hk : 0 ≤ k ∧ k < M 1 8) (h : ∀ p N, jpl M k p → jFC M N → Q (some (.int (jI ((jbs (jwt (M 16) (M 11) (M 12) (6 * M 10 k) p.toNat) (jsum (jwp (M 13 k) (M 18)) (M 2 3).toNat * M 9 0) (M 9 1) (jgw (M 13 k) (M 19) (M 2 3).toNat) (48 - (jgw (M 13 k) (M 19) (M 2 3).toNat)).toNat).1)))) N) : jN G mX7_bestQuarter (d + 3) [.ref (jad G 0), .int (jI k)] M Q := by
  show jM G mX7_bestQuarter (d + 3) 0 [.ref (jad G 0), .int (jI k)] [] M Q
  have hz := jn1 hI
  have hu := jn11 hI 1 (by omega) (by omega)
  have hg := jgw_b (s := M 13 k) (wa := M 19) (M 2 3).toNat (fun v v0 v1 => (jn9 hI v v0 (by omega)).2.1)
  refine jr_aload_n (n := 1) dX7_bestQuarter_0 rfl rfl ?_
  refine jr_getR (n := 4) dX7_bestQuarter_1 rfl fX7_26 rfl (by decide) (by decide) rfl ?_
  refine jr_aload_n (n := 5) dX7_bestQuarter_4 rfl rfl ?_
  refine jr_getR (n := 8) dX7_bestQuarter_5 rfl fX7_10 rfl (by decide) (by decide) rfl ?_
  refine jr_iload_n (n := 9) dX7_bestQuarter_8 rfl rfl ?_
  refine jr_cV2 (n := 12) (ci := 0) (ν := mX0_weigh) dX7_bestQuarter_9 rfl lX7_144 kX0_weigh iX0_weigh rfl ⟨_, rfl, rfl⟩ (by decide) (Nat.le_of_ble_eq_true rfl) (Nat.le_of_ble_eq_true rfl) rfl ?_
  obtain ⟨p, hp⟩ := jpl_of hI (k := k) (by omega) (by omega)
  refine c_weigh hI (by omega) hp (fun N hN hw => ?_)
  refine jr_aload_n (n := 13) dX7_bestQuarter_12 rfl rfl ?_
  refine jr_getR (n := 16) dX7_bestQuarter_13 rfl fX7_26 rfl (by decide) (by decide) rfl ?_
  refine jr_aload_n (n := 17) dX7_bestQuarter_16 rfl rfl ?_
  refine jr_iload_n (n := 18) dX7_bestQuarter_17 rfl rfl ?_
  refine jr_cV1 (n := 21) (ci := 7) (ν := mX7_greatestWay) dX7_bestQuarter_18 rfl lX7_298 kX7_greatestWay iX7_greatestWay rfl ⟨_, rfl, rfl⟩ (by decide) (Nat.le_of_ble_eq_true rfl) (Nat.le_of_ble_eq_true rfl) rfl ?_
  have hK := jK_C hN hI
  have n2 := congrFun (hN 2 (by decide) (by decide)) 3
  have n9 := hN 9 (by decide) (by decide)
  have n13 := hN 13 (by decide) (by decide)
  have n18 := hN 18 (by decide) (by decide)
  have n19 := hN 19 (by decide) (by decide)
  refine c_greatestWay hK (by omega) ?_
  rw [n2, n13, n19]
  refine jr_aload_n (n := 22) dX7_bestQuarter_21 rfl rfl ?_
  refine jr_iload_n (n := 23) dX7_bestQuarter_22 rfl rfl ?_
  refine jr_cV1 (n := 26) (ci := 7) (ν := mX7_waitPrice) dX7_bestQuarter_23 rfl lX7_152 kX7_waitPrice iX7_waitPrice rfl ⟨_, rfl, rfl⟩ (by decide) (Nat.le_of_ble_eq_true rfl) (Nat.le_of_ble_eq_true rfl) rfl ?_
  refine c_waitPrice hK (by omega) ?_
  rw [n2, n9, n13, n18]
  refine jr_aload_n (n := 27) dX7_bestQuarter_26 rfl rfl ?_
  refine jr_getR (n := 30) dX7_bestQuarter_27 rfl fX7_58 rfl (by decide) (by decide) rfl ?_
  refine jr_iconst (n := 31) dX7_bestQuarter_30 rfl ?_
  refine jr_iald (n := 32) dX7_bestQuarter_31 rfl rfl (by decide) (by omega) (by omega) ?_
  rw [n9]
  refine jr_i2l (n := 33) dX7_bestQuarter_32 rfl (by omega) ?_
  refine jr_cV3 (n := 36) (ci := 0) (ν := mX0_cheapestFrom) dX7_bestQuarter_33 rfl lX7_301 kX0_cheapestFrom iX0_cheapestFrom rfl ⟨_, rfl, rfl⟩ (by decide) (Nat.le_of_ble_eq_true rfl) (Nat.le_of_ble_eq_true rfl) rfl ?_
  refine c_cheapestFrom (by omega) ?_
  rw [jbs_cong hw]
  refine jr_iret dX7_bestQuarter_36 rfl ?_
  exact h p N hp hN

theorem jbq_R {M : jMem} (hI : jK M) {k p : Int} : 0 ≤ (jbs (jwt (M 16) (M 11) (M 12) (6 * M 10 k) p.toNat) (jsum (jwp (M 13 k) (M 18)) (M 2 3).toNat * M 9 0) (M 9 1) (jgw (M 13 k) (M 19) (M 2 3).toNat) (48 - (jgw (M 13 k) (M 19) (M 2 3).toNat)).toNat).1 ∧ (jbs (jwt (M 16) (M 11) (M 12) (6 * M 10 k) p.toNat) (jsum (jwp (M 13 k) (M 18)) (M 2 3).toNat * M 9 0) (M 9 1) (jgw (M 13 k) (M 19) (M 2 3).toNat) (48 - (jgw (M 13 k) (M 19) (M 2 3).toNat)).toNat).1 ≤ 48 := by
  have hz := jn1 hI
  have hg := jgw_b (s := M 13 k) (wa := M 19) (M 2 3).toNat (fun v v0 v1 => (jn9 hI v v0 (by omega)).2.1)
  have hb := jbs_b (jwt (M 16) (M 11) (M 12) (6 * M 10 k) p.toNat) (jsum (jwp (M 13 k) (M 18)) (M 2 3).toNat * M 9 0) (M 9 1) (jgw (M 13 k) (M 19) (M 2 3).toNat) (48 - (jgw (M 13 k) (M 19) (M 2 3).toNat)).toNat
  omega
theorem c_best {G : jG} {d : Nat} {M : jMem} {Q : Option Value → jMem → Prop} (hI : jK M) {k : Int} (hk : jR k) (hB : ¬ (0 ≤ k ∧ k < M 1 8) → Q (some (.long (jL (-9000000000000000001)))) M) (h : 0 ≤ k → k < M 1 8 → ∀ p N, jpl M k p → jFC M N → Q (some (.long (jL ((jbs (jwt (M 16) (M 11) (M 12) (6 * M 10 k) p.toNat) (jsum (jwp (M 13 k) (M 18)) (M 2 3).toNat * M 9 0) (M 9 1) (jgw (M 13 k) (M 19) (M 2 3).toNat) (48 - (jgw (M 13 k) (M 19) (M 2 3).toNat)).toNat).1)))) N) : jN G mX7_best (d + 4) [.ref (jad G 0), .int (jI k)] M Q := by
  show jM G mX7_best (d + 4) 0 [.ref (jad G 0), .int (jI k)] [] M Q
  have hz := jn1 hI
  refine jr_aload_n (n := 1) dX7_best_0 rfl rfl ?_
  refine jr_getR (n := 4) dX7_best_1 rfl fX7_10 rfl (by decide) (by decide) rfl ?_
  refine jr_iload_n (n := 5) dX7_best_4 rfl rfl ?_
  refine jr_cV1 (n := 8) (ci := 2) (ν := mX2_has) dX7_best_5 rfl lX7_99 kX2_has iX2_has rfl ⟨_, rfl, rfl⟩ (by decide) (Nat.le_of_ble_eq_true rfl) (Nat.le_of_ble_eq_true rfl) rfl ?_
  refine c_hasC (by omega) (by omega) (fun b5 b5b => ?_) (fun b5 => ?_)
  · refine jr_ifT_ne (t := 15) dX7_best_8 (by decide) (by decide) (by decide) ?_
    refine jr_aload_n (n := 16) dX7_best_15 rfl rfl ?_
    refine jr_iload_n (n := 17) dX7_best_16 rfl rfl ?_
    refine jr_cV1 (n := 20) (ci := 7) (ν := mX7_bestQuarter) dX7_best_17 rfl lX7_160 kX7_bestQuarter iX7_bestQuarter rfl ⟨_, rfl, rfl⟩ (by decide) (Nat.le_of_ble_eq_true rfl) (Nat.le_of_ble_eq_true rfl) rfl ?_
    refine c_bestQuarter hI (by omega) (fun p N hp hN => ?_)
    have hbq := jbq_R hI (k := k) (p := p)
    refine jr_i2l (n := 21) dX7_best_20 rfl (by omega) ?_
    refine jr_lret dX7_best_21 rfl ?_
    first | exact hB (by omega) | exact h (by omega) (by omega) p N hp hN
  · refine jr_ifF_ne (n := 11) (t := 15) dX7_best_8 rfl (by decide) (by decide) (by decide) ?_
    refine jr_ldc2 (n := 14) dX7_best_11 rfl rfl qX7_70 vX7_70 ?_
    refine jr_lret dX7_best_14 rfl ?_
    first | exact hB (by omega) | exact h (by omega) (by omega) p N hp hN

def jplC (N : jMem) (k q i : Int) : jMem := jcb N 15 (k * 10) (k * 10 + i) (fun b => decide (jbit (N 13 k) (b - k * 10))) (fun _ => q)
def jplE (N : jMem) (k q i : Int) : jMem := jcb N 48 (10 * k) (10 * k + i) (fun b => decide (jbit (N 43 k) (b - 10 * k))) (fun _ => q)
theorem jplC_ne {M : jMem} {k q i : Int} {a : Nat} (h : a ≠ 15) (b : Int) : jplC M k q i a b = M a b := jcb_ne h b
theorem jplE_ne {M : jMem} {k q i : Int} {a : Nat} (h : a ≠ 48) (b : Int) : jplE M k q i a b = M a b := jcb_ne h b
theorem jplC_y {M : jMem} {k q i : Int} (h : 0 ≤ i) (h1 : jbit (M 13 k) i) : jup (jplC M k q i) 15 (k * 10 + i) q = jplC M k q (i + 1) := by
  have e : k * 10 + i - k * 10 = i := by omega
  unfold jplC
  rw [jcb_y _ _ _ _ (by omega) (by rw [e]; exact decide_eq_true h1) rfl, Int.add_assoc]
theorem jplC_n {M : jMem} {k q i : Int} (h : ¬ jbit (M 13 k) i) : jplC M k q i = jplC M k q (i + 1) := by
  have e : k * 10 + i - k * 10 = i := by omega
  unfold jplC
  rw [jcb_n _ _ _ _ (by rw [e]; exact decide_eq_false h), Int.add_assoc]
theorem jplE_y {M : jMem} {k q i : Int} (h : 0 ≤ i) (h1 : jbit (M 43 k) i) : jup (jplE M k q i) 48 (10 * k + i) q = jplE M k q (i + 1) := by
  have e : 10 * k + i - 10 * k = i := by omega
  unfold jplE
  rw [jcb_y _ _ _ _ (by omega) (by rw [e]; exact decide_eq_true h1) rfl, Int.add_assoc]
theorem jplE_n {M : jMem} {k q i : Int} (h : ¬ jbit (M 43 k) i) : jplE M k q i = jplE M k q (i + 1) := by
  have e : 10 * k + i - 10 * k = i := by omega
  unfold jplE
  rw [jcb_n _ _ _ _ (by rw [e]; exact decide_eq_false h), Int.add_assoc]
theorem c_plan_l {G : jG} {d : Nat} {M : jMem} {Q : Option Value → jMem → Prop} (hI : jK M) {k q : Int} (hk : 0 ≤ k ∧ k < 12) (hq : 0 ≤ q ∧ q ≤ 48) (h : Q (some (.long (jL q))) (jplC M k q (M 2 3)))  : ∀ (f : Nat) (i : Int), 0 ≤ i → i ≤ M 2 3 → M 2 3 - i < f → jM G mX7_plan (d + 4) 23 [.ref (jad G 0), .int (jI k), .int (jI q), .int (jI i)] [] (jplC M k q i) Q := by
  intro f
  induction f with
  | zero =>
    intro i h0 h1 hf
    exact absurd hf (by omega)
  | succ f ih =>
    intro i h0 h1 hf
    have hz := jn1 hI
    refine jr_iload_n (n := 24) dX7_plan_23 rfl rfl ?_
    refine jr_aload_n (n := 25) dX7_plan_24 rfl rfl ?_
    refine jr_getR (n := 28) dX7_plan_25 rfl fX7_19 rfl (by decide) (by decide) rfl ?_
    refine jr_getI (n := 31) (i := 3) rfl dX7_plan_28 rfl fX7_85 rfl (by decide) (by decide) rfl ?_
    rw [jplC_ne (show (2 : Nat) ≠ 15 by decide)]
    refine jr_icmp_ge (n := 34) (t := 62) dX7_plan_31 (by decide) rfl (by omega) (by omega) (fun b31 => ?_) (fun b31 => ?_)
    · refine jr_iload_n (n := 63) dX7_plan_62 rfl rfl ?_
      refine jr_i2l (n := 64) dX7_plan_63 rfl (by omega) ?_
      refine jr_lret dX7_plan_64 rfl ?_
      have e : i = M 2 3 := by omega
      subst e
      exact h
    · refine jr_aload_n (n := 35) dX7_plan_34 rfl rfl ?_
      refine jr_getR (n := 38) dX7_plan_35 rfl fX7_10 rfl (by decide) (by decide) rfl ?_
      refine jr_iload_n (n := 39) dX7_plan_38 rfl rfl ?_
      refine jr_iload_n (n := 40) dX7_plan_39 rfl rfl ?_
      refine jr_cV2 (n := 43) (ci := 2) (ν := mX2_hasNeedOf) dX7_plan_40 rfl lX7_163 kX2_hasNeedOf iX2_hasNeedOf rfl ⟨_, rfl, rfl⟩ (by decide) (Nat.le_of_ble_eq_true rfl) (Nat.le_of_ble_eq_true rfl) rfl ?_
      refine c_hasNeedOf (by omega) (fun b40 => ?_) (fun b40 => ?_)
      all_goals rw [jplC_ne (show (13 : Nat) ≠ 15 by decide)] at b40
      · refine jr_ifF_eq (n := 46) (t := 56) dX7_plan_43 rfl (by decide) (by decide) (by decide) ?_
        refine jr_aload_n (n := 47) dX7_plan_46 rfl rfl ?_
        refine jr_getR (n := 50) dX7_plan_47 rfl fX7_10 rfl (by decide) (by decide) rfl ?_
        refine jr_iload_n (n := 51) dX7_plan_50 rfl rfl ?_
        refine jr_iload_n (n := 52) dX7_plan_51 rfl rfl ?_
        refine jr_iload_n (n := 53) dX7_plan_52 rfl rfl ?_
        refine jr_cV3 (n := 56) (ci := 2) (ν := mX2_callFor) dX7_plan_53 rfl lX7_110 kX2_callFor iX2_callFor rfl ⟨_, rfl, rfl⟩ (by decide) (Nat.le_of_ble_eq_true rfl) (Nat.le_of_ble_eq_true rfl) rfl ?_
        refine c_callFor (by omega) (by omega) ?_
        refine jr_iinc3 (n := 59) dX7_plan_56 rfl (by decide) rfl ?_
        refine jr_goto (t := 23) dX7_plan_59 (by decide) ?_
        first
          | (rw [jplC_y h0 b40]; exact ih (i + 1) (by omega) (by omega) (by omega))
          | (rw [jplC_n b40]; exact ih (i + 1) (by omega) (by omega) (by omega))
      · refine jr_ifT_eq (t := 56) dX7_plan_43 (by decide) (by decide) (by decide) ?_
        refine jr_iinc3 (n := 59) dX7_plan_56 rfl (by decide) rfl ?_
        refine jr_goto (t := 23) dX7_plan_59 (by decide) ?_
        first
          | (rw [jplC_y h0 b40]; exact ih (i + 1) (by omega) (by omega) (by omega))
          | (rw [jplC_n b40]; exact ih (i + 1) (by omega) (by omega) (by omega))

theorem c_plan {G : jG} {d : Nat} {M : jMem} {Q : Option Value → jMem → Prop} (hI : jK M) {k : Int} (hk : jR k) (hB : ¬ (0 ≤ k ∧ k < M 1 8) → Q (some (.long (jL (-9000000000000000001)))) M) (h : 0 ≤ k → k < M 1 8 → ∀ p N, jpl M k p → jFC M N → Q (some (.long (jL ((jbs (jwt (M 16) (M 11) (M 12) (6 * M 10 k) p.toNat) (jsum (jwp (M 13 k) (M 18)) (M 2 3).toNat * M 9 0) (M 9 1) (jgw (M 13 k) (M 19) (M 2 3).toNat) (48 - (jgw (M 13 k) (M 19) (M 2 3).toNat)).toNat).1)))) (jplC N k ((jbs (jwt (M 16) (M 11) (M 12) (6 * M 10 k) p.toNat) (jsum (jwp (M 13 k) (M 18)) (M 2 3).toNat * M 9 0) (M 9 1) (jgw (M 13 k) (M 19) (M 2 3).toNat) (48 - (jgw (M 13 k) (M 19) (M 2 3).toNat)).toNat).1) (N 2 3))) : jN G mX7_plan (d + 4) [.ref (jad G 0), .int (jI k)] M Q := by
  show jM G mX7_plan (d + 4) 0 [.ref (jad G 0), .int (jI k), .null, .null] [] M Q
  have hz := jn1 hI
  refine jr_aload_n (n := 1) dX7_plan_0 rfl rfl ?_
  refine jr_getR (n := 4) dX7_plan_1 rfl fX7_10 rfl (by decide) (by decide) rfl ?_
  refine jr_iload_n (n := 5) dX7_plan_4 rfl rfl ?_
  refine jr_cV1 (n := 8) (ci := 2) (ν := mX2_has) dX7_plan_5 rfl lX7_99 kX2_has iX2_has rfl ⟨_, rfl, rfl⟩ (by decide) (Nat.le_of_ble_eq_true rfl) (Nat.le_of_ble_eq_true rfl) rfl ?_
  refine c_hasC (by omega) (by omega) (fun b5 b5b => ?_) (fun b5 => ?_)
  · refine jr_ifT_ne (t := 15) dX7_plan_8 (by decide) (by decide) (by decide) ?_
    refine jr_aload_n (n := 16) dX7_plan_15 rfl rfl ?_
    refine jr_iload_n (n := 17) dX7_plan_16 rfl rfl ?_
    refine jr_cV1 (n := 20) (ci := 7) (ν := mX7_bestQuarter) dX7_plan_17 rfl lX7_160 kX7_bestQuarter iX7_bestQuarter rfl ⟨_, rfl, rfl⟩ (by decide) (Nat.le_of_ble_eq_true rfl) (Nat.le_of_ble_eq_true rfl) rfl ?_
    refine c_bestQuarter hI (by omega) (fun p N hp hN => ?_)
    have hbq := jbq_R hI (k := k) (p := p)
    refine jr_istore2 (n := 21) dX7_plan_20 rfl (by decide) rfl ?_
    refine jr_iconst (n := 22) dX7_plan_21 rfl ?_
    refine jr_istore3 (n := 23) dX7_plan_22 rfl (by decide) rfl ?_
    have hK := jK_C hN hI
    have n2 := congrFun (hN 2 (by decide) (by decide)) 3
    have k9 := c_plan_l (G := G) (d := d) (Q := Q) (k := k) hK (by omega) hbq (h (by omega) (by omega) p N hp hN) ((M 2 3).toNat + 1) 0 (by omega) (by omega) (by omega)
    unfold jplC at k9
    rw [Int.add_zero, jcb_0] at k9
    exact k9
  · refine jr_ifF_ne (n := 11) (t := 15) dX7_plan_8 rfl (by decide) (by decide) (by decide) ?_
    refine jr_ldc2 (n := 14) dX7_plan_11 rfl rfl qX7_70 vX7_70 ?_
    refine jr_lret dX7_plan_14 rfl ?_
    first | exact hB (by omega)

theorem e_weigh_1 {G : jG} {d : Nat} {M : jMem} {Q : Option Value → jMem → Prop} {k : Int} (h : jM G mX8_weigh (d + 1) 29 [.ref (jad G 8), .int (jI k), .null, .null, .null, .null, .null, .null, .null, .null, .null] [] (jblk M 55 0 49 (fun t => if t = 0 then 1 else 0)) Q)  : ∀ (f : Nat) (i : Int), 0 ≤ i → i ≤ 49 → 49 - i < f → jM G mX8_weigh (d + 1) 2 [.ref (jad G 8), .int (jI k), .int (jI i), .null, .null, .null, .null, .null, .null, .null, .null] [] (jblk M 55 0 i (fun t => if t = 0 then 1 else 0)) Q := by
  intro f
  induction f with
  | zero =>
    intro i h0 h1 hf
    exact absurd hf (by omega)
  | succ f ih =>
    intro i h0 h1 hf
    refine jr_iload_n (n := 3) dX8_weigh_2 rfl rfl ?_
    refine jr_bipush (n := 5) dX8_weigh_3 rfl (by decide) ?_
    refine jr_icmp_gt (n := 8) (t := 29) dX8_weigh_5 (by decide) rfl (by omega) (by omega) (fun b5 => ?_) (fun b5 => ?_)
    · have e : i = 49 := by omega
      subst e
      exact jr_drop h ⟨Or.inr rfl, Or.inr rfl, Or.inl rfl, Or.inl rfl, Or.inl rfl, Or.inl rfl, Or.inl rfl, Or.inl rfl, Or.inl rfl, Or.inl rfl, Or.inl rfl, trivial⟩
    · refine jr_aload_n (n := 9) dX8_weigh_8 rfl rfl ?_
      refine jr_getR (n := 12) dX8_weigh_9 rfl fX8_61 rfl (by decide) (by decide) rfl ?_
      refine jr_iload_n (n := 13) dX8_weigh_12 rfl rfl ?_
      refine jr_iload_n (n := 14) dX8_weigh_13 rfl rfl ?_
      refine jr_if_ne (n := 17) (t := 21) dX8_weigh_14 (by decide) rfl (by omega) (fun b14 => ?_) (fun b14 => ?_)
      · refine jr_lconst (n := 22) (x := 0) dX8_weigh_21 rfl (by decide) ?_
        refine jr_last (n := 23) dX8_weigh_22 rfl rfl (by decide) (by omega) (by omega) ?_
        refine jr_iinc2 (n := 26) dX8_weigh_23 rfl (by decide) rfl ?_
        refine jr_goto (t := 2) dX8_weigh_26 (by decide) ?_
        first
          | (rw [jblk_up _ 55 (fun t => if t = 0 then 1 else 0) (by omega) (by rw [if_pos (by omega)])]; exact ih (i + 1) (by omega) (by omega) (by omega))
          | (rw [jblk_up _ 55 (fun t => if t = 0 then 1 else 0) (by omega) (by rw [if_neg (by omega)])]; exact ih (i + 1) (by omega) (by omega) (by omega))
      · refine jr_lconst (n := 18) (x := 1) dX8_weigh_17 rfl (by decide) ?_
        refine jr_goto (t := 22) dX8_weigh_18 (by decide) ?_
        refine jr_last (n := 23) dX8_weigh_22 rfl rfl (by decide) (by omega) (by omega) ?_
        refine jr_iinc2 (n := 26) dX8_weigh_23 rfl (by decide) rfl ?_
        refine jr_goto (t := 2) dX8_weigh_26 (by decide) ?_
        first
          | (rw [jblk_up _ 55 (fun t => if t = 0 then 1 else 0) (by omega) (by rw [if_pos (by omega)])]; exact ih (i + 1) (by omega) (by omega) (by omega))
          | (rw [jblk_up _ 55 (fun t => if t = 0 then 1 else 0) (by omega) (by rw [if_neg (by omega)])]; exact ih (i + 1) (by omega) (by omega) (by omega))

theorem e_weigh_3 {G : jG} {d : Nat} {M : jMem} {Q : Option Value → jMem → Prop} {k c p j a : Int} (h : jM G mX8_weigh (d + 1) 186 [.ref (jad G 8), .int (jI k), .int (jI c), .int (jI p), .int (jI j), .int (jI a), .null, .null, .null, .null, .null] [] (jblk M 55 0 49 (M 56)) Q)  : ∀ (f : Nat) (i : Int), 0 ≤ i → i ≤ 49 → 49 - i < f → jM G mX8_weigh (d + 1) 159 [.ref (jad G 8), .int (jI k), .int (jI c), .int (jI p), .int (jI j), .int (jI a), .int (jI i), .null, .null, .null, .null] [] (jblk M 55 0 i (M 56)) Q := by
  intro f
  induction f with
  | zero =>
    intro i h0 h1 hf
    exact absurd hf (by omega)
  | succ f ih =>
    intro i h0 h1 hf
    refine jr_iload (n := 161) dX8_weigh_159 rfl rfl ?_
    refine jr_bipush (n := 163) dX8_weigh_161 rfl (by decide) ?_
    refine jr_icmp_gt (n := 166) (t := 186) dX8_weigh_163 (by decide) rfl (by omega) (by omega) (fun b163 => ?_) (fun b163 => ?_)
    · have e : i = 49 := by omega
      subst e
      exact jr_drop h ⟨Or.inr rfl, Or.inr rfl, Or.inr rfl, Or.inr rfl, Or.inr rfl, Or.inr rfl, Or.inl rfl, Or.inl rfl, Or.inl rfl, Or.inl rfl, Or.inl rfl, trivial⟩
    · refine jr_aload_n (n := 167) dX8_weigh_166 rfl rfl ?_
      refine jr_getR (n := 170) dX8_weigh_167 rfl fX8_61 rfl (by decide) (by decide) rfl ?_
      refine jr_iload (n := 172) dX8_weigh_170 rfl rfl ?_
      refine jr_aload_n (n := 173) dX8_weigh_172 rfl rfl ?_
      refine jr_getR (n := 176) dX8_weigh_173 rfl fX8_65 rfl (by decide) (by decide) rfl ?_
      refine jr_iload (n := 178) dX8_weigh_176 rfl rfl ?_
      refine jr_lald (n := 179) dX8_weigh_178 rfl rfl (by decide) (by omega) (by omega) ?_
      rw [jblk_ne (show (56 : Nat) ≠ 55 by decide)]
      refine jr_last (n := 180) dX8_weigh_179 rfl rfl (by decide) (by omega) (by omega) ?_
      refine jr_iinc6 (n := 183) dX8_weigh_180 rfl (by decide) rfl ?_
      refine jr_goto (t := 159) dX8_weigh_183 (by decide) ?_
      rw [jblk_up _ 55 (M 56) (by omega) rfl]
      exact ih (i + 1) (by omega) (by omega) (by omega)

theorem e_weigh_2 {G : jG} {d : Nat} {M : jMem} {Q : Option Value → jMem → Prop} {k c p j a : Int} (ha : 0 ≤ a ∧ a < 12) (hl : 0 ≤ M 41 a ∧ M 41 a ≤ 8) (hf0 : 0 ≤ M 42 a ∧ M 42 a ≤ 100) (h : jM G mX8_weigh (d + 1) 156 [.ref (jad G 8), .int (jI k), .int (jI c), .int (jI p), .int (jI j), .int (jI a), .null, .null, .null, .null, .null] [] (jblk M 56 0 49 (jws (M 55) (M 41 a) (M 42 a))) Q)  : ∀ (f : Nat) (i : Int), 0 ≤ i → i ≤ 49 → 49 - i < f → jM G mX8_weigh (d + 1) 68 [.ref (jad G 8), .int (jI k), .int (jI c), .int (jI p), .int (jI j), .int (jI a), .int (jI i), .null, .null, .null, .null] [] (jblk M 56 0 i (jws (M 55) (M 41 a) (M 42 a))) Q := by
  intro f
  induction f with
  | zero =>
    intro i h0 h1 hf
    exact absurd hf (by omega)
  | succ f ih =>
    intro i h0 h1 hf
    refine jr_iload (n := 70) dX8_weigh_68 rfl rfl ?_
    refine jr_bipush (n := 72) dX8_weigh_70 rfl (by decide) ?_
    refine jr_icmp_gt (n := 75) (t := 156) dX8_weigh_72 (by decide) rfl (by omega) (by omega) (fun b72 => ?_) (fun b72 => ?_)
    · have e : i = 49 := by omega
      subst e
      exact jr_drop h ⟨Or.inr rfl, Or.inr rfl, Or.inr rfl, Or.inr rfl, Or.inr rfl, Or.inr rfl, Or.inl rfl, Or.inl rfl, Or.inl rfl, Or.inl rfl, Or.inl rfl, trivial⟩
    · refine jr_aload_n (n := 76) dX8_weigh_75 rfl rfl ?_
      refine jr_getR (n := 79) dX8_weigh_76 rfl fX8_61 rfl (by decide) (by decide) rfl ?_
      refine jr_iload (n := 81) dX8_weigh_79 rfl rfl ?_
      refine jr_lald (n := 82) dX8_weigh_81 rfl rfl (by decide) (by omega) (by omega) ?_
      rw [jblk_ne (show (55 : Nat) ≠ 56 by decide)]
      refine jr_aload_n (n := 83) dX8_weigh_82 rfl rfl ?_
      refine jr_getR (n := 86) dX8_weigh_83 rfl fX8_22 rfl (by decide) (by decide) rfl ?_
      refine jr_iload (n := 88) dX8_weigh_86 rfl rfl ?_
      refine jr_iald (n := 89) dX8_weigh_88 rfl rfl (by decide) (by omega) (by omega) ?_
      rw [jblk_ne (show (42 : Nat) ≠ 56 by decide)]
      refine jr_i2l (n := 90) dX8_weigh_89 rfl (by omega) ?_
      refine jr_lmul (n := 91) dX8_weigh_90 rfl ?_
      refine jr_lstore7 (n := 93) dX8_weigh_91 rfl (by decide) rfl ?_
      refine jr_iload (n := 95) dX8_weigh_93 rfl rfl ?_
      refine jr_aload_n (n := 96) dX8_weigh_95 rfl rfl ?_
      refine jr_getR (n := 99) dX8_weigh_96 rfl fX8_19 rfl (by decide) (by decide) rfl ?_
      refine jr_iload (n := 101) dX8_weigh_99 rfl rfl ?_
      refine jr_iald (n := 102) dX8_weigh_101 rfl rfl (by decide) (by omega) (by omega) ?_
      rw [jblk_ne (show (41 : Nat) ≠ 56 by decide)]
      refine jr_icmp_lt (n := 105) (t := 135) dX8_weigh_102 (by decide) rfl (by omega) (by omega) (fun b102 => ?_) (fun b102 => ?_)
      · refine jr_lconst (n := 136) (x := 0) dX8_weigh_135 rfl (by decide) ?_
        refine jr_lstore9 (n := 138) dX8_weigh_136 rfl (by decide) rfl ?_
        refine jr_aload_n (n := 139) dX8_weigh_138 rfl rfl ?_
        refine jr_getR (n := 142) dX8_weigh_139 rfl fX8_65 rfl (by decide) (by decide) rfl ?_
        refine jr_iload (n := 144) dX8_weigh_142 rfl rfl ?_
        refine jr_lload (n := 146) dX8_weigh_144 rfl rfl ?_
        refine jr_lload (n := 148) dX8_weigh_146 rfl rfl ?_
        refine jr_ladd (n := 149) dX8_weigh_148 rfl ?_
        refine jr_last (n := 150) dX8_weigh_149 rfl rfl (by decide) (by omega) (by omega) ?_
        refine jr_iinc6 (n := 153) dX8_weigh_150 rfl (by decide) rfl ?_
        refine jr_goto (t := 68) dX8_weigh_153 (by decide) ?_
        first
          | (rw [jblk_up _ 56 (jws (M 55) (M 41 a) (M 42 a)) (by omega) (by unfold jws; rw [if_pos (by omega)])]; exact jr_drop (ih (i + 1) (by omega) (by omega) (by omega)) ⟨Or.inr rfl, Or.inr rfl, Or.inr rfl, Or.inr rfl, Or.inr rfl, Or.inr rfl, Or.inr rfl, Or.inl rfl, Or.inl rfl, Or.inl rfl, Or.inl rfl, trivial⟩)
          | (rw [jblk_up _ 56 (jws (M 55) (M 41 a) (M 42 a)) (by omega) (by unfold jws; rw [if_neg (by omega), Int.zero_mul])]; exact jr_drop (ih (i + 1) (by omega) (by omega) (by omega)) ⟨Or.inr rfl, Or.inr rfl, Or.inr rfl, Or.inr rfl, Or.inr rfl, Or.inr rfl, Or.inr rfl, Or.inl rfl, Or.inl rfl, Or.inl rfl, Or.inl rfl, trivial⟩)
      · refine jr_aload_n (n := 106) dX8_weigh_105 rfl rfl ?_
        refine jr_getR (n := 109) dX8_weigh_106 rfl fX8_61 rfl (by decide) (by decide) rfl ?_
        refine jr_iload (n := 111) dX8_weigh_109 rfl rfl ?_
        refine jr_aload_n (n := 112) dX8_weigh_111 rfl rfl ?_
        refine jr_getR (n := 115) dX8_weigh_112 rfl fX8_19 rfl (by decide) (by decide) rfl ?_
        refine jr_iload (n := 117) dX8_weigh_115 rfl rfl ?_
        refine jr_iald (n := 118) dX8_weigh_117 rfl rfl (by decide) (by omega) (by omega) ?_
        rw [jblk_ne (show (41 : Nat) ≠ 56 by decide)]
        refine jr_isub (n := 119) dX8_weigh_118 rfl ?_
        refine jr_lald (n := 120) dX8_weigh_119 rfl rfl (by decide) (by omega) (by omega) ?_
        rw [jblk_ne (show (55 : Nat) ≠ 56 by decide)]
        refine jr_bipush (n := 122) dX8_weigh_120 rfl (by decide) ?_
        refine jr_aload_n (n := 123) dX8_weigh_122 rfl rfl ?_
        refine jr_getR (n := 126) dX8_weigh_123 rfl fX8_22 rfl (by decide) (by decide) rfl ?_
        refine jr_iload (n := 128) dX8_weigh_126 rfl rfl ?_
        refine jr_iald (n := 129) dX8_weigh_128 rfl rfl (by decide) (by omega) (by omega) ?_
        rw [jblk_ne (show (42 : Nat) ≠ 56 by decide)]
        refine jr_isub (n := 130) dX8_weigh_129 rfl ?_
        refine jr_i2l (n := 131) dX8_weigh_130 rfl (by omega) ?_
        refine jr_lmul (n := 132) dX8_weigh_131 rfl ?_
        refine jr_goto (t := 136) dX8_weigh_132 (by decide) ?_
        refine jr_lstore9 (n := 138) dX8_weigh_136 rfl (by decide) rfl ?_
        refine jr_aload_n (n := 139) dX8_weigh_138 rfl rfl ?_
        refine jr_getR (n := 142) dX8_weigh_139 rfl fX8_65 rfl (by decide) (by decide) rfl ?_
        refine jr_iload (n := 144) dX8_weigh_142 rfl rfl ?_
        refine jr_lload (n := 146) dX8_weigh_144 rfl rfl ?_
        refine jr_lload (n := 148) dX8_weigh_146 rfl rfl ?_
        refine jr_ladd (n := 149) dX8_weigh_148 rfl ?_
        refine jr_last (n := 150) dX8_weigh_149 rfl rfl (by decide) (by omega) (by omega) ?_
        refine jr_iinc6 (n := 153) dX8_weigh_150 rfl (by decide) rfl ?_
        refine jr_goto (t := 68) dX8_weigh_153 (by decide) ?_
        first
          | (rw [jblk_up _ 56 (jws (M 55) (M 41 a) (M 42 a)) (by omega) (by unfold jws; rw [if_pos (by omega)])]; exact jr_drop (ih (i + 1) (by omega) (by omega) (by omega)) ⟨Or.inr rfl, Or.inr rfl, Or.inr rfl, Or.inr rfl, Or.inr rfl, Or.inr rfl, Or.inr rfl, Or.inl rfl, Or.inl rfl, Or.inl rfl, Or.inl rfl, trivial⟩)
          | (rw [jblk_up _ 56 (jws (M 55) (M 41 a) (M 42 a)) (by omega) (by unfold jws; rw [if_neg (by omega), Int.zero_mul])]; exact jr_drop (ih (i + 1) (by omega) (by omega) (by omega)) ⟨Or.inr rfl, Or.inr rfl, Or.inr rfl, Or.inr rfl, Or.inr rfl, Or.inr rfl, Or.inr rfl, Or.inl rfl, Or.inl rfl, Or.inl rfl, Or.inl rfl, trivial⟩)

theorem e_weigh_l {G : jG} {d : Nat} {M : jMem} {Q : Option Value → jMem → Prop} (hI : jO M) {k p : Int} (hk : 0 ≤ k ∧ k < M 8 2) (hp : jplo M k p) (h : ∀ N, jFE M N → (∀ t, 0 ≤ t → t < 49 → N 55 t = jwt (M 39) (M 41) (M 42) (6 * M 40 k) p.toNat t) → Q none N)  : ∀ (f : Nat) (i : Int) (N : jMem), 0 ≤ i → i ≤ p → jFE M N → (∀ t, 0 ≤ t → t < 49 → N 55 t = jwt (M 39) (M 41) (M 42) (6 * M 40 k) i.toNat t) → p - i < f → jM G mX8_weigh (d + 1) 45 [.ref (jad G 8), .int (jI k), .int (jI (M 40 k)), .int (jI p), .int (jI i), .null, .null, .null, .null, .null, .null] [] (N) Q := by
  intro f
  induction f with
  | zero =>
    intro i N h0 h1 hN hw hf
    exact absurd hf (by omega)
  | succ f ih =>
    intro i N h0 h1 hN hw hf
    have hz := jn1 hI
    have hp1 := hp.2.1
    have hr := (jn3 hI k (by omega) (by omega)).1
    have hs := jn2 hI _ hr.1 hr.2
    have n39 := hN.1 39 (by decide) (by decide)
    have n41 := hN.1 41 (by decide) (by decide)
    have n42 := hN.1 42 (by decide) (by decide)
    refine jr_iload (n := 47) dX8_weigh_45 rfl rfl ?_
    refine jr_iload_n (n := 48) dX8_weigh_47 rfl rfl ?_
    refine jr_icmp_ge (n := 51) (t := 192) dX8_weigh_48 (by decide) rfl (by omega) (by omega) (fun b48 => ?_) (fun b48 => ?_)
    · refine jr_vret dX8_weigh_192 rfl ?_
      have e : i = p := by omega
      subst e
      exact h N hN hw
    · refine jr_aload_n (n := 52) dX8_weigh_51 rfl rfl ?_
      refine jr_getR (n := 55) dX8_weigh_52 rfl fX8_13 rfl (by decide) (by decide) rfl ?_
      refine jr_bipush (n := 57) dX8_weigh_55 rfl (by decide) ?_
      refine jr_iload_n (n := 58) dX8_weigh_57 rfl rfl ?_
      refine jr_imul (n := 59) dX8_weigh_58 rfl ?_
      refine jr_iload (n := 61) dX8_weigh_59 rfl rfl ?_
      refine jr_iadd (n := 62) dX8_weigh_61 rfl ?_
      refine jr_iald (n := 63) dX8_weigh_62 rfl rfl (by decide) (by omega) (by omega) ?_
      rw [n39]
      refine jr_istore5 (n := 65) dX8_weigh_63 rfl (by decide) rfl ?_
      refine jr_iconst (n := 66) dX8_weigh_65 rfl ?_
      refine jr_istore6 (n := 68) dX8_weigh_66 rfl (by decide) rfl ?_
      have hx := (jn6 hI _ i hr.1 hr.2 (by omega) (by omega)).1
      have hy := jn3 hI (M 39 (6 * M 40 k + i)) (by omega) (by omega)
      have k2 := e_weigh_2 (G := G) (d := d) (M := N) (Q := Q) (k := k) (c := M 40 k) (p := p) (j := i) (a := M 39 (6 * M 40 k + i)) (by omega) (by rw [n41]; exact hy.2.1) (by rw [n42]; exact hy.2.2.1) ?_ 50 0 (by omega) (by omega) (by omega)
      · rw [jblk_0] at k2
        exact k2
      rw [n41, n42]
      refine jr_iconst (n := 157) dX8_weigh_156 rfl ?_
      refine jr_istore6 (n := 159) dX8_weigh_157 rfl (by decide) rfl ?_
      have k3 := e_weigh_3 (G := G) (d := d) (M := (jblk N 56 0 49 (jws (N 55) (M 41 (M 39 (6 * M 40 k + i))) (M 42 (M 39 (6 * M 40 k + i)))))) (Q := Q) (k := k) (c := M 40 k) (p := p) (j := i) (a := M 39 (6 * M 40 k + i)) ?_ 50 0 (by omega) (by omega) (by omega)
      · rw [jblk_0] at k3
        exact k3
      refine jr_iinc4 (n := 189) dX8_weigh_186 rfl (by decide) rfl ?_
      refine jr_goto (t := 45) dX8_weigh_189 (by decide) ?_
      refine jr_drop (ih (i + 1) _ (by omega) (by omega) ((hN.blk (by omega)).blk (by omega)) (fun t t0 t1 => ?_) (by omega)) ⟨Or.inr rfl, Or.inr rfl, Or.inr rfl, Or.inr rfl, Or.inr rfl, Or.inl rfl, Or.inl rfl, Or.inl rfl, Or.inl rfl, Or.inl rfl, Or.inl rfl, trivial⟩
      rw [jblk_in ⟨t0, t1⟩, jblk_in ⟨t0, t1⟩, show (i + 1).toNat = i.toNat + 1 by omega]
      show _ = jws (jwt (M 39) (M 41) (M 42) (6 * M 40 k) i.toNat) (M 41 (M 39 (6 * M 40 k + ((i.toNat : Nat) : Int)))) (M 42 (M 39 (6 * M 40 k + ((i.toNat : Nat) : Int)))) t
      rw [show ((i.toNat : Nat) : Int) = i by omega]
      exact jws_cong hw hy.2.1.1 t t0 t1

theorem e_weigh {G : jG} {d : Nat} {M : jMem} {Q : Option Value → jMem → Prop} (hI : jO M) {k p : Int} (hk : 0 ≤ k ∧ k < M 8 2) (hp : jplo M k p) (h : ∀ N, jFE M N → (∀ t, 0 ≤ t → t < 49 → N 55 t = jwt (M 39) (M 41) (M 42) (6 * M 40 k) p.toNat t) → Q none N)  : jN G mX8_weigh (d + 1) [.ref (jad G 8), .int (jI k)] M Q := by
  show jM G mX8_weigh (d + 1) 0 [.ref (jad G 8), .int (jI k), .null, .null, .null, .null, .null, .null, .null, .null, .null] [] M Q
  have hz := jn1 hI
  have hp0 := hp.1
  have hp1 := hp.2.1
  have hr := (jn3 hI k (by omega) (by omega)).1
  have hs := jn2 hI _ hr.1 hr.2
  have f9 : jFE M (jblk M 55 0 49 (fun t => if t = 0 then 1 else 0)) := jFE.rf.blk (by omega)
  have n39 := f9.1 39 (by decide) (by decide)
  have n40 := f9.1 40 (by decide) (by decide)
  refine jr_iconst (n := 1) dX8_weigh_0 rfl ?_
  refine jr_istore2 (n := 2) dX8_weigh_1 rfl (by decide) rfl ?_
  have k1 := e_weigh_1 (G := G) (d := d) (M := M) (Q := Q) (k := k) ?_ 50 0 (by omega) (by omega) (by omega)
  · rw [jblk_0] at k1
    exact k1
  refine jr_aload_n (n := 30) dX8_weigh_29 rfl rfl ?_
  refine jr_getR (n := 33) dX8_weigh_30 rfl fX8_16 rfl (by decide) (by decide) rfl ?_
  refine jr_iload_n (n := 34) dX8_weigh_33 rfl rfl ?_
  refine jr_iald (n := 35) dX8_weigh_34 rfl rfl (by decide) (by omega) (by omega) ?_
  rw [n40]
  refine jr_istore2 (n := 36) dX8_weigh_35 rfl (by decide) rfl ?_
  refine jr_aload_n (n := 37) dX8_weigh_36 rfl rfl ?_
  refine jr_iload_n (n := 38) dX8_weigh_37 rfl rfl ?_
  refine jr_cV1 (n := 41) (ci := 8) (ν := mX8_placeOf) dX8_weigh_38 rfl lX8_125 kX8_placeOf iX8_placeOf rfl ⟨_, rfl, rfl⟩ (by decide) (Nat.le_of_ble_eq_true rfl) (Nat.le_of_ble_eq_true rfl) rfl ?_
  refine e_placeOf (p := p) (by omega) (by rw [n40]; exact hr) (by omega) (fun q q0 q1 => by rw [n39, n40]; exact jplo_R hI (by omega) (by omega) q q0 (by omega)) hp.1 (by rw [n39, n40]; exact hp.2.2.1) (by rw [n39, n40]; exact hp.2.2.2) ?_
  refine jr_istore3 (n := 42) dX8_weigh_41 rfl (by decide) rfl ?_
  refine jr_iconst (n := 43) dX8_weigh_42 rfl ?_
  refine jr_istore4 (n := 45) dX8_weigh_43 rfl (by decide) rfl ?_
  exact e_weigh_l hI hk hp h (p.toNat + 1) 0 _ (by omega) (by omega) f9 (fun t t0 t1 => by rw [jblk_in ⟨t0, t1⟩]; rfl) (by omega)

theorem e_weightOf_l {G : jG} {d : Nat} {M : jMem} {Q : Option Value → jMem → Prop} (hI : jO M) {k : Int} (hk : 0 ≤ k ∧ k < 12) (h : Q (some (.int (jI (jsum (jwp (M 43 k) (M 45)) (M 8 8).toNat)))) M)  : ∀ (f : Nat) (i : Int), 0 ≤ i → i ≤ M 8 8 → M 8 8 - i < f → jM G mX8_weightOf (d + 1) 4 [.ref (jad G 8), .int (jI k), .int (jI (jsum (jwp (M 43 k) (M 45)) i.toNat)), .int (jI i)] [] (M) Q := by
  intro f
  induction f with
  | zero =>
    intro i h0 h1 hf
    exact absurd hf (by omega)
  | succ f ih =>
    intro i h0 h1 hf
    have hz := jn1 hI
    refine jr_iload_n (n := 5) dX8_weightOf_4 rfl rfl ?_
    refine jr_aload_n (n := 6) dX8_weightOf_5 rfl rfl ?_
    refine jr_getI (n := 9) (i := 8) rfl dX8_weightOf_6 rfl fX8_100 rfl (by decide) (by decide) rfl ?_
    refine jr_icmp_ge (n := 12) (t := 59) dX8_weightOf_9 (by decide) rfl (by omega) (by omega) (fun b9 => ?_) (fun b9 => ?_)
    · refine jr_iload_n (n := 60) dX8_weightOf_59 rfl rfl ?_
      refine jr_iret dX8_weightOf_60 rfl ?_
      have e : i = M 8 8 := by omega
      subst e
      exact h
    · refine jr_aload_n (n := 13) dX8_weightOf_12 rfl rfl ?_
      refine jr_iload_n (n := 14) dX8_weightOf_13 rfl rfl ?_
      refine jr_iload_n (n := 15) dX8_weightOf_14 rfl rfl ?_
      refine jr_cV2 (n := 18) (ci := 8) (ν := mX8_needs1) dX8_weightOf_15 rfl lX8_121 kX8_needs1 iX8_needs1 rfl ⟨_, rfl, rfl⟩ (by decide) (Nat.le_of_ble_eq_true rfl) (Nat.le_of_ble_eq_true rfl) rfl ?_
      refine e_needs1 (by omega) (fun b15 => ?_) (fun b15 => ?_)
      · refine jr_ifF_eq (n := 21) (t := 53) dX8_weightOf_18 rfl (by decide) (by decide) (by decide) ?_
        have hr := (jn9 hI i (by omega) (by omega)).1
        have hv := jsv0 hr.1 hr.2
        refine jr_iload_n (n := 22) dX8_weightOf_21 rfl rfl ?_
        refine jr_aload_n (n := 23) dX8_weightOf_22 rfl rfl ?_
        refine jr_getR (n := 26) dX8_weightOf_23 rfl fX8_31 rfl (by decide) (by decide) rfl ?_
        refine jr_iload_n (n := 27) dX8_weightOf_26 rfl rfl ?_
        refine jr_iald (n := 28) dX8_weightOf_27 rfl rfl (by decide) (by omega) (by omega) ?_
        refine jr_iconst (n := 29) dX8_weightOf_28 rfl ?_
        refine jr_icmp_lt (n := 32) (t := 36) dX8_weightOf_29 (by decide) rfl (by omega) (by omega) (fun b29 => ?_) (fun b29 => ?_)
        · refine jr_aload_n (n := 37) dX8_weightOf_36 rfl rfl ?_
          refine jr_getR (n := 40) dX8_weightOf_37 rfl fX8_31 rfl (by decide) (by decide) rfl ?_
          refine jr_iload_n (n := 41) dX8_weightOf_40 rfl rfl ?_
          refine jr_iald (n := 42) dX8_weightOf_41 rfl rfl (by decide) (by omega) (by omega) ?_
          refine jr_iconst (n := 43) dX8_weightOf_42 rfl ?_
          refine jr_icmp_ne (n := 46) (t := 50) dX8_weightOf_43 (by decide) rfl (by omega) (by omega) (fun b43 => ?_) (fun b43 => ?_)
          · refine jr_iconst (n := 51) dX8_weightOf_50 rfl ?_
            refine jr_iadd (n := 52) dX8_weightOf_51 rfl ?_
            refine jr_istore2 (n := 53) dX8_weightOf_52 rfl (by decide) rfl ?_
            refine jr_iinc3 (n := 56) dX8_weightOf_53 rfl (by decide) rfl ?_
            refine jr_goto (t := 4) dX8_weightOf_56 (by decide) ?_
            have e := jsum_s (jwp (M 43 k) (M 45)) h0
            first
              | (rw [show (jwp (M 43 k) (M 45)) i = 0 from if_neg b15, Int.add_zero] at e; rw [← e]; exact ih (i + 1) (by omega) (by omega) (by omega))
              | (rw [show (jwp (M 43 k) (M 45)) i = jsv 0 (M 45 i) from if_pos b15, hv] at e; first
                  | (rw [if_pos (by omega)] at e; rw [← e]; exact ih (i + 1) (by omega) (by omega) (by omega))
                  | (rw [if_neg (by omega), if_pos (by omega)] at e; rw [← e]; exact ih (i + 1) (by omega) (by omega) (by omega))
                  | (rw [if_neg (by omega), if_neg (by omega)] at e; rw [← e]; exact ih (i + 1) (by omega) (by omega) (by omega)))
          · refine jr_iconst (n := 47) dX8_weightOf_46 rfl ?_
            refine jr_goto (t := 51) dX8_weightOf_47 (by decide) ?_
            refine jr_iadd (n := 52) dX8_weightOf_51 rfl ?_
            refine jr_istore2 (n := 53) dX8_weightOf_52 rfl (by decide) rfl ?_
            refine jr_iinc3 (n := 56) dX8_weightOf_53 rfl (by decide) rfl ?_
            refine jr_goto (t := 4) dX8_weightOf_56 (by decide) ?_
            have e := jsum_s (jwp (M 43 k) (M 45)) h0
            first
              | (rw [show (jwp (M 43 k) (M 45)) i = 0 from if_neg b15, Int.add_zero] at e; rw [← e]; exact ih (i + 1) (by omega) (by omega) (by omega))
              | (rw [show (jwp (M 43 k) (M 45)) i = jsv 0 (M 45 i) from if_pos b15, hv] at e; first
                  | (rw [if_pos (by omega)] at e; rw [← e]; exact ih (i + 1) (by omega) (by omega) (by omega))
                  | (rw [if_neg (by omega), if_pos (by omega)] at e; rw [← e]; exact ih (i + 1) (by omega) (by omega) (by omega))
                  | (rw [if_neg (by omega), if_neg (by omega)] at e; rw [← e]; exact ih (i + 1) (by omega) (by omega) (by omega)))
        · refine jr_iconst (n := 33) dX8_weightOf_32 rfl ?_
          refine jr_goto (t := 51) dX8_weightOf_33 (by decide) ?_
          refine jr_iadd (n := 52) dX8_weightOf_51 rfl ?_
          refine jr_istore2 (n := 53) dX8_weightOf_52 rfl (by decide) rfl ?_
          refine jr_iinc3 (n := 56) dX8_weightOf_53 rfl (by decide) rfl ?_
          refine jr_goto (t := 4) dX8_weightOf_56 (by decide) ?_
          have e := jsum_s (jwp (M 43 k) (M 45)) h0
          first
            | (rw [show (jwp (M 43 k) (M 45)) i = 0 from if_neg b15, Int.add_zero] at e; rw [← e]; exact ih (i + 1) (by omega) (by omega) (by omega))
            | (rw [show (jwp (M 43 k) (M 45)) i = jsv 0 (M 45 i) from if_pos b15, hv] at e; first
                | (rw [if_pos (by omega)] at e; rw [← e]; exact ih (i + 1) (by omega) (by omega) (by omega))
                | (rw [if_neg (by omega), if_pos (by omega)] at e; rw [← e]; exact ih (i + 1) (by omega) (by omega) (by omega))
                | (rw [if_neg (by omega), if_neg (by omega)] at e; rw [← e]; exact ih (i + 1) (by omega) (by omega) (by omega)))
      · refine jr_ifT_eq (t := 53) dX8_weightOf_18 (by decide) (by decide) (by decide) ?_
        refine jr_iinc3 (n := 56) dX8_weightOf_53 rfl (by decide) rfl ?_
        refine jr_goto (t := 4) dX8_weightOf_56 (by decide) ?_
        have e := jsum_s (jwp (M 43 k) (M 45)) h0
        first
          | (rw [show (jwp (M 43 k) (M 45)) i = 0 from if_neg b15, Int.add_zero] at e; rw [← e]; exact ih (i + 1) (by omega) (by omega) (by omega))
          | (rw [show (jwp (M 43 k) (M 45)) i = jsv 0 (M 45 i) from if_pos b15, hv] at e; first
              | (rw [if_pos (by omega)] at e; rw [← e]; exact ih (i + 1) (by omega) (by omega) (by omega))
              | (rw [if_neg (by omega), if_pos (by omega)] at e; rw [← e]; exact ih (i + 1) (by omega) (by omega) (by omega))
              | (rw [if_neg (by omega), if_neg (by omega)] at e; rw [← e]; exact ih (i + 1) (by omega) (by omega) (by omega)))

theorem e_weightOf {G : jG} {d : Nat} {M : jMem} {Q : Option Value → jMem → Prop} (hI : jO M) {k : Int} (hk : 0 ≤ k ∧ k < 12) (h : Q (some (.int (jI (jsum (jwp (M 43 k) (M 45)) (M 8 8).toNat)))) M) : jN G mX8_weightOf (d + 1) [.ref (jad G 8), .int (jI k)] M Q := by
  show jM G mX8_weightOf (d + 1) 0 [.ref (jad G 8), .int (jI k), .null, .null] [] M Q
  have hz := jn1 hI
  refine jr_iconst (n := 1) dX8_weightOf_0 rfl ?_
  refine jr_istore2 (n := 2) dX8_weightOf_1 rfl (by decide) rfl ?_
  refine jr_iconst (n := 3) dX8_weightOf_2 rfl ?_
  refine jr_istore3 (n := 4) dX8_weightOf_3 rfl (by decide) rfl ?_
  exact e_weightOf_l hI hk h ((M 8 8).toNat + 1) 0 (by omega) (by omega) (by omega)

theorem e_costOf_l {G : jG} {d : Nat} {M : jMem} {Q : Option Value → jMem → Prop} (hI : jO M) {k c z : Int} (hc : 0 ≤ c ∧ c ≤ 48) (hz : 0 ≤ z ∧ z ≤ 30) (h : Q (some (.long (jL (jcst (M 55) c (z * M 49 0) (M 49 1))))) M)  : ∀ (f : Nat) (i : Int), 0 ≤ i → i ≤ 49 → 49 - i < f → jM G mX8_costOf (d + 2) 12 [.ref (jad G 8), .int (jI k), .int (jI c), .long (jL (jsum (jct (M 55) c (z * M 49 0) (M 49 1)) i.toNat)), .null, .int (jI z), .int (jI i)] [] (M) Q := by
  intro f
  induction f with
  | zero =>
    intro i h0 h1 hf
    exact absurd hf (by omega)
  | succ f ih =>
    intro i h0 h1 hf
    have hu := jn11 hI 0 (by omega) (by omega)
    have hv := jn11 hI 1 (by omega) (by omega)
    refine jr_iload (n := 14) dX8_costOf_12 rfl rfl ?_
    refine jr_bipush (n := 16) dX8_costOf_14 rfl (by decide) ?_
    refine jr_icmp_gt (n := 19) (t := 75) dX8_costOf_16 (by decide) rfl (by omega) (by omega) (fun b16 => ?_) (fun b16 => ?_)
    · refine jr_lload_n (n := 76) dX8_costOf_75 rfl rfl ?_
      refine jr_lret dX8_costOf_76 rfl ?_
      have e : i = 49 := by omega
      subst e
      exact h
    · refine jr_lload_n (n := 20) dX8_costOf_19 rfl rfl ?_
      refine jr_aload_n (n := 21) dX8_costOf_20 rfl rfl ?_
      refine jr_getR (n := 24) dX8_costOf_21 rfl fX8_61 rfl (by decide) (by decide) rfl ?_
      refine jr_iload (n := 26) dX8_costOf_24 rfl rfl ?_
      refine jr_lald (n := 27) dX8_costOf_26 rfl rfl (by decide) (by omega) (by omega) ?_
      refine jr_iload (n := 29) dX8_costOf_27 rfl rfl ?_
      refine jr_iload_n (n := 30) dX8_costOf_29 rfl rfl ?_
      refine jr_icmp_le (n := 33) (t := 53) dX8_costOf_30 (by decide) rfl (by omega) (by omega) (fun b30 => ?_) (fun b30 => ?_)
      · refine jr_iload_n (n := 54) dX8_costOf_53 rfl rfl ?_
        refine jr_iload (n := 56) dX8_costOf_54 rfl rfl ?_
        refine jr_isub (n := 57) dX8_costOf_56 rfl ?_
        refine jr_i2l (n := 58) dX8_costOf_57 rfl (by omega) ?_
        refine jr_aload_n (n := 59) dX8_costOf_58 rfl rfl ?_
        refine jr_getR (n := 62) dX8_costOf_59 rfl fX8_43 rfl (by decide) (by decide) rfl ?_
        refine jr_iconst (n := 63) dX8_costOf_62 rfl ?_
        refine jr_iald (n := 64) dX8_costOf_63 rfl rfl (by decide) (by omega) (by omega) ?_
        refine jr_i2l (n := 65) dX8_costOf_64 rfl (by omega) ?_
        refine jr_lmul (n := 66) dX8_costOf_65 rfl ?_
        refine jr_lmul (n := 67) dX8_costOf_66 rfl ?_
        refine jr_ladd (n := 68) dX8_costOf_67 rfl ?_
        refine jr_lstore3 (n := 69) dX8_costOf_68 rfl (by decide) rfl ?_
        refine jr_iinc6 (n := 72) dX8_costOf_69 rfl (by decide) rfl ?_
        refine jr_goto (t := 12) dX8_costOf_72 (by decide) ?_
        have e := jsum_s (jct (M 55) c (z * M 49 0) (M 49 1)) h0
        first
          | (rw [show (jct (M 55) c (z * M 49 0) (M 49 1)) i = M 55 i * ((i - c) * M 49 0 * z) by unfold jct; rw [if_pos (by omega), Int.mul_assoc (i - c), Int.mul_comm z]] at e; rw [← e]; exact ih (i + 1) (by omega) (by omega) (by omega))
          | (rw [show (jct (M 55) c (z * M 49 0) (M 49 1)) i = M 55 i * ((c - i) * M 49 1) by unfold jct; rw [if_neg (by omega)]] at e; rw [← e]; exact ih (i + 1) (by omega) (by omega) (by omega))
      · refine jr_iload (n := 35) dX8_costOf_33 rfl rfl ?_
        refine jr_iload_n (n := 36) dX8_costOf_35 rfl rfl ?_
        refine jr_isub (n := 37) dX8_costOf_36 rfl ?_
        refine jr_i2l (n := 38) dX8_costOf_37 rfl (by omega) ?_
        refine jr_aload_n (n := 39) dX8_costOf_38 rfl rfl ?_
        refine jr_getR (n := 42) dX8_costOf_39 rfl fX8_43 rfl (by decide) (by decide) rfl ?_
        refine jr_iconst (n := 43) dX8_costOf_42 rfl ?_
        refine jr_iald (n := 44) dX8_costOf_43 rfl rfl (by decide) (by omega) (by omega) ?_
        refine jr_i2l (n := 45) dX8_costOf_44 rfl (by omega) ?_
        refine jr_lmul (n := 46) dX8_costOf_45 rfl ?_
        refine jr_iload (n := 48) dX8_costOf_46 rfl rfl ?_
        refine jr_i2l (n := 49) dX8_costOf_48 rfl (by omega) ?_
        refine jr_lmul (n := 50) dX8_costOf_49 rfl ?_
        refine jr_goto (t := 66) dX8_costOf_50 (by decide) ?_
        refine jr_lmul (n := 67) dX8_costOf_66 rfl ?_
        refine jr_ladd (n := 68) dX8_costOf_67 rfl ?_
        refine jr_lstore3 (n := 69) dX8_costOf_68 rfl (by decide) rfl ?_
        refine jr_iinc6 (n := 72) dX8_costOf_69 rfl (by decide) rfl ?_
        refine jr_goto (t := 12) dX8_costOf_72 (by decide) ?_
        have e := jsum_s (jct (M 55) c (z * M 49 0) (M 49 1)) h0
        first
          | (rw [show (jct (M 55) c (z * M 49 0) (M 49 1)) i = M 55 i * ((i - c) * M 49 0 * z) by unfold jct; rw [if_pos (by omega), Int.mul_assoc (i - c), Int.mul_comm z]] at e; rw [← e]; exact ih (i + 1) (by omega) (by omega) (by omega))
          | (rw [show (jct (M 55) c (z * M 49 0) (M 49 1)) i = M 55 i * ((c - i) * M 49 1) by unfold jct; rw [if_neg (by omega)]] at e; rw [← e]; exact ih (i + 1) (by omega) (by omega) (by omega))

theorem e_costOf {G : jG} {d : Nat} {M : jMem} {Q : Option Value → jMem → Prop} (hI : jO M) {k c : Int} (hk : 0 ≤ k ∧ k < 12) (hc : 0 ≤ c ∧ c ≤ 48) (h : Q (some (.long (jL (jcst (M 55) c (jsum (jwp (M 43 k) (M 45)) (M 8 8).toNat * M 49 0) (M 49 1))))) M) : jN G mX8_costOf (d + 2) [.ref (jad G 8), .int (jI k), .int (jI c)] M Q := by
  show jM G mX8_costOf (d + 2) 0 [.ref (jad G 8), .int (jI k), .int (jI c), .null, .null, .null, .null] [] M Q
  have hz := jn1 hI
  have hb := jwp_b (M := M) (s := M 43 k) hz.2.1 (fun v v0 v1 => (jn9 hI v v0 v1).1) (i := M 8 8) (by omega) (by omega)
  refine jr_lconst (n := 1) (x := 0) dX8_costOf_0 rfl (by decide) ?_
  refine jr_lstore3 (n := 2) dX8_costOf_1 rfl (by decide) rfl ?_
  refine jr_aload_n (n := 3) dX8_costOf_2 rfl rfl ?_
  refine jr_iload_n (n := 4) dX8_costOf_3 rfl rfl ?_
  refine jr_cV1 (n := 7) (ci := 8) (ν := mX8_weightOf) dX8_costOf_4 rfl lX8_135 kX8_weightOf iX8_weightOf rfl ⟨_, rfl, rfl⟩ (by decide) (Nat.le_of_ble_eq_true rfl) (Nat.le_of_ble_eq_true rfl) rfl ?_
  refine e_weightOf hI hk ?_
  refine jr_istore5 (n := 9) dX8_costOf_7 rfl (by decide) rfl ?_
  refine jr_iconst (n := 10) dX8_costOf_9 rfl ?_
  refine jr_istore6 (n := 12) dX8_costOf_10 rfl (by decide) rfl ?_
  exact e_costOf_l hI hc hb h 50 0 (by omega) (by omega) (by omega)

theorem e_bestFor_m {G : jG} {d : Nat} {M : jMem} {Q : Option Value → jMem → Prop} (hI : jO M) {N : jMem} {k p : Int} (hk : 0 ≤ k ∧ k < 12) (hN : jFE M N) (hw : ∀ t, 0 ≤ t → t < 49 → N 55 t = jwt (M 39) (M 41) (M 42) (6 * M 40 k) p.toNat t) (h : Q (some (.int (jI ((jbs (jwt (M 39) (M 41) (M 42) (6 * M 40 k) p.toNat) (jsum (jwp (M 43 k) (M 45)) (M 8 8).toNat * M 49 0) (M 49 1) (jgw (M 43 k) (M 46) (M 8 8).toNat) (48 - (jgw (M 43 k) (M 46) (M 8 8).toNat)).toNat).1)))) N)  : ∀ (f : Nat) (n : Nat), (jgw (M 43 k) (M 46) (M 8 8).toNat) + n ≤ 48 → 48 - (jgw (M 43 k) (M 46) (M 8 8).toNat) - n < f → jM G mX8_bestFor (d + 3) 68 [.ref (jad G 8), .int (jI k), .int (jI (jgw (M 43 k) (M 46) (M 8 8).toNat)), .int (jI (jbs (jwt (M 39) (M 41) (M 42) (6 * M 40 k) p.toNat) (jsum (jwp (M 43 k) (M 45)) (M 8 8).toNat * M 49 0) (M 49 1) (jgw (M 43 k) (M 46) (M 8 8).toNat) n).1), .long (jL (jbs (jwt (M 39) (M 41) (M 42) (6 * M 40 k) p.toNat) (jsum (jwp (M 43 k) (M 45)) (M 8 8).toNat * M 49 0) (M 49 1) (jgw (M 43 k) (M 46) (M 8 8).toNat) n).2), .null, .int (jI ((jgw (M 43 k) (M 46) (M 8 8).toNat) + 1 + (n : Int))), .null, .null] [] (N) Q := by
  intro f
  induction f with
  | zero =>
    intro n h1 hf
    exact absurd hf (by omega)
  | succ f ih =>
    intro n h1 hf
    have hz := jn1 hI
    have hg := jgw_b (s := M 43 k) (wa := M 46) (M 8 8).toNat (fun v v0 v1 => (jn9 hI v v0 (by omega)).2.1)
    have n8 := hN.2 8 (by decide)
    have n43 := hN.1 43 (by decide) (by decide)
    have n45 := hN.1 45 (by decide) (by decide)
    have n49 := hN.1 49 (by decide) (by decide)
    have hK := jO_E hN hI
    refine jr_iload (n := 70) dX8_bestFor_68 rfl rfl ?_
    refine jr_bipush (n := 72) dX8_bestFor_70 rfl (by decide) ?_
    refine jr_icmp_gt (n := 75) (t := 105) dX8_bestFor_72 (by decide) rfl (by omega) (by omega) (fun b72 => ?_) (fun b72 => ?_)
    · refine jr_iload_n (n := 106) dX8_bestFor_105 rfl rfl ?_
      refine jr_iret dX8_bestFor_106 rfl ?_
      have e : n = (48 - (jgw (M 43 k) (M 46) (M 8 8).toNat)).toNat := by omega
      subst e
      exact h
    · refine jr_aload_n (n := 76) dX8_bestFor_75 rfl rfl ?_
      refine jr_iload_n (n := 77) dX8_bestFor_76 rfl rfl ?_
      refine jr_iload (n := 79) dX8_bestFor_77 rfl rfl ?_
      refine jr_cV2 (n := 82) (ci := 8) (ν := mX8_costOf) dX8_bestFor_79 rfl lX8_138 kX8_costOf iX8_costOf rfl ⟨_, rfl, rfl⟩ (by decide) (Nat.le_of_ble_eq_true rfl) (Nat.le_of_ble_eq_true rfl) rfl ?_
      refine e_costOf hK (by omega) (by omega) ?_
      rw [n8, n43, n45, n49, jcst_cong hw]
      refine jr_lstore7 (n := 84) dX8_bestFor_82 rfl (by decide) rfl ?_
      refine jr_lload (n := 86) dX8_bestFor_84 rfl rfl ?_
      refine jr_lload (n := 88) dX8_bestFor_86 rfl rfl ?_
      refine jr_lcmp (n := 89) dX8_bestFor_88 rfl ?_
      refine jr_if_ge (n := 92) (t := 99) dX8_bestFor_89 (by decide) rfl (jlc_R _ _) (fun b89 => ?_) (fun b89 => ?_)
      · refine jr_iinc6 (n := 102) dX8_bestFor_99 rfl (by decide) rfl ?_
        refine jr_goto (t := 68) dX8_bestFor_102 (by decide) ?_
        have k9 := ih (n + 1) (by omega) (by omega)
        rw [show (jgw (M 43 k) (M 46) (M 8 8).toNat) + 1 + ((n + 1 : Nat) : Int) = (jgw (M 43 k) (M 46) (M 8 8).toNat) + 1 + (n : Int) + 1 by omega] at k9
        unfold jbs at k9
        first
          | (rw [if_pos b89] at k9; exact jr_drop k9 ⟨Or.inr rfl, Or.inr rfl, Or.inr rfl, Or.inr rfl, Or.inr rfl, Or.inr rfl, Or.inr rfl, Or.inl rfl, Or.inl rfl, trivial⟩)
          | (rw [if_neg (by omega)] at k9; exact jr_drop k9 ⟨Or.inr rfl, Or.inr rfl, Or.inr rfl, Or.inr rfl, Or.inr rfl, Or.inr rfl, Or.inr rfl, Or.inl rfl, Or.inl rfl, trivial⟩)
      · refine jr_lload (n := 94) dX8_bestFor_92 rfl rfl ?_
        refine jr_lstore4 (n := 96) dX8_bestFor_94 rfl (by decide) rfl ?_
        refine jr_iload (n := 98) dX8_bestFor_96 rfl rfl ?_
        refine jr_istore3 (n := 99) dX8_bestFor_98 rfl (by decide) rfl ?_
        refine jr_iinc6 (n := 102) dX8_bestFor_99 rfl (by decide) rfl ?_
        refine jr_goto (t := 68) dX8_bestFor_102 (by decide) ?_
        have k9 := ih (n + 1) (by omega) (by omega)
        rw [show (jgw (M 43 k) (M 46) (M 8 8).toNat) + 1 + ((n + 1 : Nat) : Int) = (jgw (M 43 k) (M 46) (M 8 8).toNat) + 1 + (n : Int) + 1 by omega] at k9
        unfold jbs at k9
        first
          | (rw [if_pos b89] at k9; exact jr_drop k9 ⟨Or.inr rfl, Or.inr rfl, Or.inr rfl, Or.inr rfl, Or.inr rfl, Or.inr rfl, Or.inr rfl, Or.inl rfl, Or.inl rfl, trivial⟩)
          | (rw [if_neg (by omega)] at k9; exact jr_drop k9 ⟨Or.inr rfl, Or.inr rfl, Or.inr rfl, Or.inr rfl, Or.inr rfl, Or.inr rfl, Or.inr rfl, Or.inl rfl, Or.inl rfl, trivial⟩)

theorem e_bestFor_l {G : jG} {d : Nat} {M : jMem} {Q : Option Value → jMem → Prop} (hI : jO M) {k : Int} (hk : 0 ≤ k ∧ k < M 8 2) (h : ∀ p N, jplo M k p → jFE M N → Q (some (.int (jI ((jbs (jwt (M 39) (M 41) (M 42) (6 * M 40 k) p.toNat) (jsum (jwp (M 43 k) (M 45)) (M 8 8).toNat * M 49 0) (M 49 1) (jgw (M 43 k) (M 46) (M 8 8).toNat) (48 - (jgw (M 43 k) (M 46) (M 8 8).toNat)).toNat).1)))) N)  : ∀ (f : Nat) (i : Int), 0 ≤ i → i ≤ M 8 8 → M 8 8 - i < f → jM G mX8_bestFor (d + 3) 4 [.ref (jad G 8), .int (jI k), .int (jI (jgw (M 43 k) (M 46) i.toNat)), .int (jI i), .null, .null, .null, .null, .null] [] (M) Q := by
  intro f
  induction f with
  | zero =>
    intro i h0 h1 hf
    exact absurd hf (by omega)
  | succ f ih =>
    intro i h0 h1 hf
    have hz := jn1 hI
    have hg := jgw_b (s := M 43 k) (wa := M 46) i.toNat (fun v v0 v1 => (jn9 hI v v0 (by omega)).2.1)
    refine jr_iload_n (n := 5) dX8_bestFor_4 rfl rfl ?_
    refine jr_aload_n (n := 6) dX8_bestFor_5 rfl rfl ?_
    refine jr_getI (n := 9) (i := 8) rfl dX8_bestFor_6 rfl fX8_100 rfl (by decide) (by decide) rfl ?_
    refine jr_icmp_ge (n := 12) (t := 48) dX8_bestFor_9 (by decide) rfl (by omega) (by omega) (fun b9 => ?_) (fun b9 => ?_)
    · refine jr_aload_n (n := 49) dX8_bestFor_48 rfl rfl ?_
      refine jr_iload_n (n := 50) dX8_bestFor_49 rfl rfl ?_
      refine jr_cV1 (n := 53) (ci := 8) (ν := mX8_weigh) dX8_bestFor_50 rfl lX8_131 kX8_weigh iX8_weigh rfl ⟨_, rfl, rfl⟩ (by decide) (Nat.le_of_ble_eq_true rfl) (Nat.le_of_ble_eq_true rfl) rfl ?_
      have e : i = M 8 8 := by omega
      subst e
      obtain ⟨p, hp⟩ := jplo_of hI (k := k) (by omega) (by omega)
      refine e_weigh hI hk hp (fun N hN hw => ?_)
      have n8 := hN.2 8 (by decide)
      have n43 := hN.1 43 (by decide) (by decide)
      have n45 := hN.1 45 (by decide) (by decide)
      have n49 := hN.1 49 (by decide) (by decide)
      have hK := jO_E hN hI
      refine jr_iload_n (n := 54) dX8_bestFor_53 rfl rfl ?_
      refine jr_istore3 (n := 55) dX8_bestFor_54 rfl (by decide) rfl ?_
      refine jr_aload_n (n := 56) dX8_bestFor_55 rfl rfl ?_
      refine jr_iload_n (n := 57) dX8_bestFor_56 rfl rfl ?_
      refine jr_iload_n (n := 58) dX8_bestFor_57 rfl rfl ?_
      refine jr_cV2 (n := 61) (ci := 8) (ν := mX8_costOf) dX8_bestFor_58 rfl lX8_138 kX8_costOf iX8_costOf rfl ⟨_, rfl, rfl⟩ (by decide) (Nat.le_of_ble_eq_true rfl) (Nat.le_of_ble_eq_true rfl) rfl ?_
      refine e_costOf hK (by omega) (by omega) ?_
      rw [n8, n43, n45, n49, jcst_cong hw]
      refine jr_lstore4 (n := 63) dX8_bestFor_61 rfl (by decide) rfl ?_
      refine jr_iload_n (n := 64) dX8_bestFor_63 rfl rfl ?_
      refine jr_iconst (n := 65) dX8_bestFor_64 rfl ?_
      refine jr_iadd (n := 66) dX8_bestFor_65 rfl ?_
      refine jr_istore6 (n := 68) dX8_bestFor_66 rfl (by decide) rfl ?_
      have k9 := e_bestFor_m (G := G) (d := d) hI (by omega) hN hw (h p N hp hN) 50 0 (by omega) (by omega)
      rw [show (jgw (M 43 k) (M 46) (M 8 8).toNat) + 1 + ((0 : Nat) : Int) = (jgw (M 43 k) (M 46) (M 8 8).toNat) + 1 by omega] at k9
      exact k9
    · refine jr_aload_n (n := 13) dX8_bestFor_12 rfl rfl ?_
      refine jr_iload_n (n := 14) dX8_bestFor_13 rfl rfl ?_
      refine jr_iload_n (n := 15) dX8_bestFor_14 rfl rfl ?_
      refine jr_cV2 (n := 18) (ci := 8) (ν := mX8_needs1) dX8_bestFor_15 rfl lX8_121 kX8_needs1 iX8_needs1 rfl ⟨_, rfl, rfl⟩ (by decide) (Nat.le_of_ble_eq_true rfl) (Nat.le_of_ble_eq_true rfl) rfl ?_
      refine e_needs1 (by omega) (fun b15 => ?_) (fun b15 => ?_)
      · refine jr_ifF_eq (n := 21) (t := 40) dX8_bestFor_18 rfl (by decide) (by decide) (by decide) ?_
        have hr := (jn9 hI i (by omega) (by omega)).2.1
        refine jr_aload_n (n := 22) dX8_bestFor_21 rfl rfl ?_
        refine jr_getR (n := 25) dX8_bestFor_22 rfl fX8_34 rfl (by decide) (by decide) rfl ?_
        refine jr_iload_n (n := 26) dX8_bestFor_25 rfl rfl ?_
        refine jr_iald (n := 27) dX8_bestFor_26 rfl rfl (by decide) (by omega) (by omega) ?_
        refine jr_iload_n (n := 28) dX8_bestFor_27 rfl rfl ?_
        refine jr_icmp_le (n := 31) (t := 40) dX8_bestFor_28 (by decide) rfl (by omega) (by omega) (fun b28 => ?_) (fun b28 => ?_)
        · refine jr_iload_n (n := 41) dX8_bestFor_40 rfl rfl ?_
          refine jr_istore2 (n := 42) dX8_bestFor_41 rfl (by decide) rfl ?_
          refine jr_iinc3 (n := 45) dX8_bestFor_42 rfl (by decide) rfl ?_
          refine jr_goto (t := 4) dX8_bestFor_45 (by decide) ?_
          have e := jgw_s (M 43 k) (M 46) h0
          first
            | (rw [if_neg b15] at e; rw [← e]; exact ih (i + 1) (by omega) (by omega) (by omega))
            | (rw [if_pos b15] at e; rw [show max (jgw (M 43 k) (M 46) i.toNat) (M 46 i) = M 46 i by omega] at e; rw [← e]; exact ih (i + 1) (by omega) (by omega) (by omega))
            | (rw [if_pos b15] at e; rw [show max (jgw (M 43 k) (M 46) i.toNat) (M 46 i) = jgw (M 43 k) (M 46) i.toNat by omega] at e; rw [← e]; exact ih (i + 1) (by omega) (by omega) (by omega))
        · refine jr_aload_n (n := 32) dX8_bestFor_31 rfl rfl ?_
          refine jr_getR (n := 35) dX8_bestFor_32 rfl fX8_34 rfl (by decide) (by decide) rfl ?_
          refine jr_iload_n (n := 36) dX8_bestFor_35 rfl rfl ?_
          refine jr_iald (n := 37) dX8_bestFor_36 rfl rfl (by decide) (by omega) (by omega) ?_
          refine jr_goto (t := 41) dX8_bestFor_37 (by decide) ?_
          refine jr_istore2 (n := 42) dX8_bestFor_41 rfl (by decide) rfl ?_
          refine jr_iinc3 (n := 45) dX8_bestFor_42 rfl (by decide) rfl ?_
          refine jr_goto (t := 4) dX8_bestFor_45 (by decide) ?_
          have e := jgw_s (M 43 k) (M 46) h0
          first
            | (rw [if_neg b15] at e; rw [← e]; exact ih (i + 1) (by omega) (by omega) (by omega))
            | (rw [if_pos b15] at e; rw [show max (jgw (M 43 k) (M 46) i.toNat) (M 46 i) = M 46 i by omega] at e; rw [← e]; exact ih (i + 1) (by omega) (by omega) (by omega))
            | (rw [if_pos b15] at e; rw [show max (jgw (M 43 k) (M 46) i.toNat) (M 46 i) = jgw (M 43 k) (M 46) i.toNat by omega] at e; rw [← e]; exact ih (i + 1) (by omega) (by omega) (by omega))
      · refine jr_ifT_eq (t := 40) dX8_bestFor_18 (by decide) (by decide) (by decide) ?_
        refine jr_iload_n (n := 41) dX8_bestFor_40 rfl rfl ?_
        refine jr_istore2 (n := 42) dX8_bestFor_41 rfl (by decide) rfl ?_
        refine jr_iinc3 (n := 45) dX8_bestFor_42 rfl (by decide) rfl ?_
        refine jr_goto (t := 4) dX8_bestFor_45 (by decide) ?_
        have e := jgw_s (M 43 k) (M 46) h0
        first
          | (rw [if_neg b15] at e; rw [← e]; exact ih (i + 1) (by omega) (by omega) (by omega))
          | (rw [if_pos b15] at e; rw [show max (jgw (M 43 k) (M 46) i.toNat) (M 46 i) = M 46 i by omega] at e; rw [← e]; exact ih (i + 1) (by omega) (by omega) (by omega))
          | (rw [if_pos b15] at e; rw [show max (jgw (M 43 k) (M 46) i.toNat) (M 46 i) = jgw (M 43 k) (M 46) i.toNat by omega] at e; rw [← e]; exact ih (i + 1) (by omega) (by omega) (by omega))

theorem e_bestFor {G : jG} {d : Nat} {M : jMem} {Q : Option Value → jMem → Prop} (hI : jO M) {k : Int} (hk : 0 ≤ k ∧ k < M 8 2) (h : ∀ p N, jplo M k p → jFE M N → Q (some (.int (jI ((jbs (jwt (M 39) (M 41) (M 42) (6 * M 40 k) p.toNat) (jsum (jwp (M 43 k) (M 45)) (M 8 8).toNat * M 49 0) (M 49 1) (jgw (M 43 k) (M 46) (M 8 8).toNat) (48 - (jgw (M 43 k) (M 46) (M 8 8).toNat)).toNat).1)))) N) : jN G mX8_bestFor (d + 3) [.ref (jad G 8), .int (jI k)] M Q := by
  show jM G mX8_bestFor (d + 3) 0 [.ref (jad G 8), .int (jI k), .null, .null, .null, .null, .null, .null, .null] [] M Q
  have hz := jn1 hI
  refine jr_iconst (n := 1) dX8_bestFor_0 rfl ?_
  refine jr_istore2 (n := 2) dX8_bestFor_1 rfl (by decide) rfl ?_
  refine jr_iconst (n := 3) dX8_bestFor_2 rfl ?_
  refine jr_istore3 (n := 4) dX8_bestFor_3 rfl (by decide) rfl ?_
  exact e_bestFor_l hI hk h ((M 8 8).toNat + 1) 0 (by omega) (by omega) (by omega)

theorem jbe_R {M : jMem} (hI : jO M) {k p : Int} : 0 ≤ (jbs (jwt (M 39) (M 41) (M 42) (6 * M 40 k) p.toNat) (jsum (jwp (M 43 k) (M 45)) (M 8 8).toNat * M 49 0) (M 49 1) (jgw (M 43 k) (M 46) (M 8 8).toNat) (48 - (jgw (M 43 k) (M 46) (M 8 8).toNat)).toNat).1 ∧ (jbs (jwt (M 39) (M 41) (M 42) (6 * M 40 k) p.toNat) (jsum (jwp (M 43 k) (M 45)) (M 8 8).toNat * M 49 0) (M 49 1) (jgw (M 43 k) (M 46) (M 8 8).toNat) (48 - (jgw (M 43 k) (M 46) (M 8 8).toNat)).toNat).1 ≤ 48 := by
  have hz := jn1 hI
  have hg := jgw_b (s := M 43 k) (wa := M 46) (M 8 8).toNat (fun v v0 v1 => (jn9 hI v v0 (by omega)).2.1)
  have hb := jbs_b (jwt (M 39) (M 41) (M 42) (6 * M 40 k) p.toNat) (jsum (jwp (M 43 k) (M 45)) (M 8 8).toNat * M 49 0) (M 49 1) (jgw (M 43 k) (M 46) (M 8 8).toNat) (48 - (jgw (M 43 k) (M 46) (M 8 8).toNat)).toNat
  omega
theorem e_weight {G : jG} {d : Nat} {M : jMem} {Q : Option Value → jMem → Prop} (hI : jO M) {k q : Int} (hk : jR k) (hq : jR q) (hB : ¬ ((0 ≤ k ∧ k < M 8 2) ∧ (0 ≤ q ∧ q ≤ 48)) → Q (some (.long (jL (-9000000000000000001)))) M) (h : 0 ≤ k → k < M 8 2 → 0 ≤ q → q ≤ 48 → ∀ p N, jplo M k p → jFE M N → Q (some (.long (jL (jwt (M 39) (M 41) (M 42) (6 * M 40 k) p.toNat q)))) N) : jN G mX8_weight (d + 3) [.ref (jad G 8), .int (jI k), .int (jI q)] M Q := by
  show jM G mX8_weight (d + 3) 0 [.ref (jad G 8), .int (jI k), .int (jI q)] [] M Q
  have hz := jn1 hI
  refine jr_aload_n (n := 1) dX8_weight_0 rfl rfl ?_
  refine jr_iload_n (n := 2) dX8_weight_1 rfl rfl ?_
  refine jr_cV1 (n := 5) (ci := 8) (ν := mX8_isCase) dX8_weight_2 rfl lX8_118 kX8_isCase iX8_isCase rfl ⟨_, rfl, rfl⟩ (by decide) (Nat.le_of_ble_eq_true rfl) (Nat.le_of_ble_eq_true rfl) rfl ?_
  refine e_isCase (by omega) (by omega) (fun b2 b2b => ?_) (fun b2 => ?_)
  · refine jr_ifF_eq (n := 8) (t := 18) dX8_weight_5 rfl (by decide) (by decide) (by decide) ?_
    refine jr_iload_n (n := 9) dX8_weight_8 rfl rfl ?_
    refine jr_iconst (n := 10) dX8_weight_9 rfl ?_
    refine jr_bipush (n := 12) dX8_weight_10 rfl (by decide) ?_
    refine jr_cS3 (n := 15) (ν := mX8_isIn) dX8_weight_12 rfl lX8_92 kX8_isIn iX8_isIn (Nat.le_of_ble_eq_true rfl) (Nat.le_of_ble_eq_true rfl) rfl ?_
    refine e_isIn (by omega) (by omega) (by omega) (fun b12 b12b => ?_) (fun b12 => ?_)
    · refine jr_ifT_ne (t := 22) dX8_weight_15 (by decide) (by decide) (by decide) ?_
      refine jr_aload_n (n := 23) dX8_weight_22 rfl rfl ?_
      refine jr_iload_n (n := 24) dX8_weight_23 rfl rfl ?_
      refine jr_cV1 (n := 27) (ci := 8) (ν := mX8_weigh) dX8_weight_24 rfl lX8_131 kX8_weigh iX8_weigh rfl ⟨_, rfl, rfl⟩ (by decide) (Nat.le_of_ble_eq_true rfl) (Nat.le_of_ble_eq_true rfl) rfl ?_
      obtain ⟨p, hp⟩ := jplo_of hI (k := k) (by omega) (by omega)
      refine e_weigh hI (by omega) hp (fun N hN hw => ?_)
      have n8 := hN.2 8 (by decide)
      have n43 := hN.1 43 (by decide) (by decide)
      have n45 := hN.1 45 (by decide) (by decide)
      have n49 := hN.1 49 (by decide) (by decide)
      have hK := jO_E hN hI
      refine jr_aload_n (n := 28) dX8_weight_27 rfl rfl ?_
      refine jr_getR (n := 31) dX8_weight_28 rfl fX8_61 rfl (by decide) (by decide) rfl ?_
      refine jr_iload_n (n := 32) dX8_weight_31 rfl rfl ?_
      refine jr_lald (n := 33) dX8_weight_32 rfl rfl (by decide) (by omega) (by omega) ?_
      rw [hw q (by omega) (by omega)]
      refine jr_lret dX8_weight_33 rfl ?_
      first | exact hB (by omega) | exact h (by omega) (by omega) (by omega) (by omega) p N hp hN
    · refine jr_ifF_ne (n := 18) (t := 22) dX8_weight_15 rfl (by decide) (by decide) (by decide) ?_
      refine jr_ldc2 (n := 21) dX8_weight_18 rfl rfl qX8_107 vX8_107 ?_
      refine jr_lret dX8_weight_21 rfl ?_
      first | exact hB (by omega) | exact h (by omega) (by omega) (by omega) (by omega) p N hp hN
  · refine jr_ifT_eq (t := 18) dX8_weight_5 (by decide) (by decide) (by decide) ?_
    refine jr_ldc2 (n := 21) dX8_weight_18 rfl rfl qX8_107 vX8_107 ?_
    refine jr_lret dX8_weight_21 rfl ?_
    first | exact hB (by omega) | exact h (by omega) (by omega) (by omega) (by omega) p N hp hN

theorem e_cost {G : jG} {d : Nat} {M : jMem} {Q : Option Value → jMem → Prop} (hI : jO M) {k q : Int} (hk : jR k) (hq : jR q) (hB : ¬ ((0 ≤ k ∧ k < M 8 2) ∧ (0 ≤ q ∧ q ≤ 48)) → Q (some (.long (jL (-9000000000000000001)))) M) (h : 0 ≤ k → k < M 8 2 → 0 ≤ q → q ≤ 48 → ∀ p N, jplo M k p → jFE M N → Q (some (.long (jL (jcst (jwt (M 39) (M 41) (M 42) (6 * M 40 k) p.toNat) q (jsum (jwp (M 43 k) (M 45)) (M 8 8).toNat * M 49 0) (M 49 1))))) N) : jN G mX8_cost (d + 3) [.ref (jad G 8), .int (jI k), .int (jI q)] M Q := by
  show jM G mX8_cost (d + 3) 0 [.ref (jad G 8), .int (jI k), .int (jI q)] [] M Q
  have hz := jn1 hI
  refine jr_aload_n (n := 1) dX8_cost_0 rfl rfl ?_
  refine jr_iload_n (n := 2) dX8_cost_1 rfl rfl ?_
  refine jr_cV1 (n := 5) (ci := 8) (ν := mX8_isCase) dX8_cost_2 rfl lX8_118 kX8_isCase iX8_isCase rfl ⟨_, rfl, rfl⟩ (by decide) (Nat.le_of_ble_eq_true rfl) (Nat.le_of_ble_eq_true rfl) rfl ?_
  refine e_isCase (by omega) (by omega) (fun b2 b2b => ?_) (fun b2 => ?_)
  · refine jr_ifF_eq (n := 8) (t := 18) dX8_cost_5 rfl (by decide) (by decide) (by decide) ?_
    refine jr_iload_n (n := 9) dX8_cost_8 rfl rfl ?_
    refine jr_iconst (n := 10) dX8_cost_9 rfl ?_
    refine jr_bipush (n := 12) dX8_cost_10 rfl (by decide) ?_
    refine jr_cS3 (n := 15) (ν := mX8_isIn) dX8_cost_12 rfl lX8_92 kX8_isIn iX8_isIn (Nat.le_of_ble_eq_true rfl) (Nat.le_of_ble_eq_true rfl) rfl ?_
    refine e_isIn (by omega) (by omega) (by omega) (fun b12 b12b => ?_) (fun b12 => ?_)
    · refine jr_ifT_ne (t := 22) dX8_cost_15 (by decide) (by decide) (by decide) ?_
      refine jr_aload_n (n := 23) dX8_cost_22 rfl rfl ?_
      refine jr_iload_n (n := 24) dX8_cost_23 rfl rfl ?_
      refine jr_cV1 (n := 27) (ci := 8) (ν := mX8_weigh) dX8_cost_24 rfl lX8_131 kX8_weigh iX8_weigh rfl ⟨_, rfl, rfl⟩ (by decide) (Nat.le_of_ble_eq_true rfl) (Nat.le_of_ble_eq_true rfl) rfl ?_
      obtain ⟨p, hp⟩ := jplo_of hI (k := k) (by omega) (by omega)
      refine e_weigh hI (by omega) hp (fun N hN hw => ?_)
      have n8 := hN.2 8 (by decide)
      have n43 := hN.1 43 (by decide) (by decide)
      have n45 := hN.1 45 (by decide) (by decide)
      have n49 := hN.1 49 (by decide) (by decide)
      have hK := jO_E hN hI
      refine jr_aload_n (n := 28) dX8_cost_27 rfl rfl ?_
      refine jr_iload_n (n := 29) dX8_cost_28 rfl rfl ?_
      refine jr_iload_n (n := 30) dX8_cost_29 rfl rfl ?_
      refine jr_cV2 (n := 33) (ci := 8) (ν := mX8_costOf) dX8_cost_30 rfl lX8_138 kX8_costOf iX8_costOf rfl ⟨_, rfl, rfl⟩ (by decide) (Nat.le_of_ble_eq_true rfl) (Nat.le_of_ble_eq_true rfl) rfl ?_
      refine e_costOf hK (by omega) (by omega) ?_
      rw [n8, n43, n45, n49, jcst_cong hw]
      refine jr_lret dX8_cost_33 rfl ?_
      first | exact hB (by omega) | exact h (by omega) (by omega) (by omega) (by omega) p N hp hN
    · refine jr_ifF_ne (n := 18) (t := 22) dX8_cost_15 rfl (by decide) (by decide) (by decide) ?_
      refine jr_ldc2 (n := 21) dX8_cost_18 rfl rfl qX8_107 vX8_107 ?_
      refine jr_lret dX8_cost_21 rfl ?_
      first | exact hB (by omega) | exact h (by omega) (by omega) (by omega) (by omega) p N hp hN
  · refine jr_ifT_eq (t := 18) dX8_cost_5 (by decide) (by decide) (by decide) ?_
    refine jr_ldc2 (n := 21) dX8_cost_18 rfl rfl qX8_107 vX8_107 ?_
    refine jr_lret dX8_cost_21 rfl ?_
    first | exact hB (by omega) | exact h (by omega) (by omega) (by omega) (by omega) p N hp hN

theorem e_best {G : jG} {d : Nat} {M : jMem} {Q : Option Value → jMem → Prop} (hI : jO M) {k : Int} (hk : jR k) (hB : ¬ (0 ≤ k ∧ k < M 8 2) → Q (some (.long (jL (-9000000000000000001)))) M) (h : 0 ≤ k → k < M 8 2 → ∀ p N, jplo M k p → jFE M N → Q (some (.long (jL ((jbs (jwt (M 39) (M 41) (M 42) (6 * M 40 k) p.toNat) (jsum (jwp (M 43 k) (M 45)) (M 8 8).toNat * M 49 0) (M 49 1) (jgw (M 43 k) (M 46) (M 8 8).toNat) (48 - (jgw (M 43 k) (M 46) (M 8 8).toNat)).toNat).1)))) N) : jN G mX8_best (d + 4) [.ref (jad G 8), .int (jI k)] M Q := by
  show jM G mX8_best (d + 4) 0 [.ref (jad G 8), .int (jI k)] [] M Q
  have hz := jn1 hI
  refine jr_aload_n (n := 1) dX8_best_0 rfl rfl ?_
  refine jr_iload_n (n := 2) dX8_best_1 rfl rfl ?_
  refine jr_cV1 (n := 5) (ci := 8) (ν := mX8_isCase) dX8_best_2 rfl lX8_118 kX8_isCase iX8_isCase rfl ⟨_, rfl, rfl⟩ (by decide) (Nat.le_of_ble_eq_true rfl) (Nat.le_of_ble_eq_true rfl) rfl ?_
  refine e_isCase (by omega) (by omega) (fun b2 b2b => ?_) (fun b2 => ?_)
  · refine jr_ifF_eq (n := 8) (t := 17) dX8_best_5 rfl (by decide) (by decide) (by decide) ?_
    refine jr_aload_n (n := 9) dX8_best_8 rfl rfl ?_
    refine jr_iload_n (n := 10) dX8_best_9 rfl rfl ?_
    refine jr_cV1 (n := 13) (ci := 8) (ν := mX8_bestFor) dX8_best_10 rfl lX8_142 kX8_bestFor iX8_bestFor rfl ⟨_, rfl, rfl⟩ (by decide) (Nat.le_of_ble_eq_true rfl) (Nat.le_of_ble_eq_true rfl) rfl ?_
    refine e_bestFor hI (by omega) (fun p N hp hN => ?_)
    have hbq := jbe_R hI (k := k) (p := p)
    refine jr_i2l (n := 14) dX8_best_13 rfl (by omega) ?_
    refine jr_goto (t := 20) dX8_best_14 (by decide) ?_
    refine jr_lret dX8_best_20 rfl ?_
    first | exact hB (by omega) | exact h (by omega) (by omega) p N hp hN
  · refine jr_ifT_eq (t := 17) dX8_best_5 (by decide) (by decide) (by decide) ?_
    refine jr_ldc2 (n := 20) dX8_best_17 rfl rfl qX8_107 vX8_107 ?_
    refine jr_lret dX8_best_20 rfl ?_
    first | exact hB (by omega) | exact h (by omega) (by omega) p N hp hN

theorem e_plan_l {G : jG} {d : Nat} {M : jMem} {Q : Option Value → jMem → Prop} (hI : jO M) {k q : Int} (hk : 0 ≤ k ∧ k < 12) (hq : 0 ≤ q ∧ q ≤ 48) (h : Q (some (.long (jL q))) (jplE M k q (M 8 8)))  : ∀ (f : Nat) (i : Int), 0 ≤ i → i ≤ M 8 8 → M 8 8 - i < f → jM G mX8_plan (d + 4) 20 [.ref (jad G 8), .int (jI k), .int (jI q), .int (jI i)] [] (jplE M k q i) Q := by
  intro f
  induction f with
  | zero =>
    intro i h0 h1 hf
    exact absurd hf (by omega)
  | succ f ih =>
    intro i h0 h1 hf
    have hz := jn1 hI
    refine jr_iload_n (n := 21) dX8_plan_20 rfl rfl ?_
    refine jr_aload_n (n := 22) dX8_plan_21 rfl rfl ?_
    refine jr_getI (n := 25) (i := 8) rfl dX8_plan_22 rfl fX8_100 rfl (by decide) (by decide) rfl ?_
    rw [jplE_ne (show (8 : Nat) ≠ 48 by decide)]
    refine jr_icmp_ge (n := 28) (t := 55) dX8_plan_25 (by decide) rfl (by omega) (by omega) (fun b25 => ?_) (fun b25 => ?_)
    · refine jr_iload_n (n := 56) dX8_plan_55 rfl rfl ?_
      refine jr_i2l (n := 57) dX8_plan_56 rfl (by omega) ?_
      refine jr_lret dX8_plan_57 rfl ?_
      have e : i = M 8 8 := by omega
      subst e
      exact h
    · refine jr_aload_n (n := 29) dX8_plan_28 rfl rfl ?_
      refine jr_iload_n (n := 30) dX8_plan_29 rfl rfl ?_
      refine jr_iload_n (n := 31) dX8_plan_30 rfl rfl ?_
      refine jr_cV2 (n := 34) (ci := 8) (ν := mX8_needs1) dX8_plan_31 rfl lX8_121 kX8_needs1 iX8_needs1 rfl ⟨_, rfl, rfl⟩ (by decide) (Nat.le_of_ble_eq_true rfl) (Nat.le_of_ble_eq_true rfl) rfl ?_
      refine e_needs1 (by omega) (fun b31 => ?_) (fun b31 => ?_)
      all_goals rw [jplE_ne (show (43 : Nat) ≠ 48 by decide)] at b31
      · refine jr_ifF_eq (n := 37) (t := 49) dX8_plan_34 rfl (by decide) (by decide) (by decide) ?_
        refine jr_aload_n (n := 38) dX8_plan_37 rfl rfl ?_
        refine jr_getR (n := 41) dX8_plan_38 rfl fX8_40 rfl (by decide) (by decide) rfl ?_
        refine jr_bipush (n := 43) dX8_plan_41 rfl (by decide) ?_
        refine jr_iload_n (n := 44) dX8_plan_43 rfl rfl ?_
        refine jr_imul (n := 45) dX8_plan_44 rfl ?_
        refine jr_iload_n (n := 46) dX8_plan_45 rfl rfl ?_
        refine jr_iadd (n := 47) dX8_plan_46 rfl ?_
        refine jr_iload_n (n := 48) dX8_plan_47 rfl rfl ?_
        refine jr_iast (n := 49) dX8_plan_48 rfl rfl (by decide) (by omega) (by omega) ?_
        refine jr_iinc3 (n := 52) dX8_plan_49 rfl (by decide) rfl ?_
        refine jr_goto (t := 20) dX8_plan_52 (by decide) ?_
        first
          | (rw [jplE_y h0 b31]; exact ih (i + 1) (by omega) (by omega) (by omega))
          | (rw [jplE_n b31]; exact ih (i + 1) (by omega) (by omega) (by omega))
      · refine jr_ifT_eq (t := 49) dX8_plan_34 (by decide) (by decide) (by decide) ?_
        refine jr_iinc3 (n := 52) dX8_plan_49 rfl (by decide) rfl ?_
        refine jr_goto (t := 20) dX8_plan_52 (by decide) ?_
        first
          | (rw [jplE_y h0 b31]; exact ih (i + 1) (by omega) (by omega) (by omega))
          | (rw [jplE_n b31]; exact ih (i + 1) (by omega) (by omega) (by omega))

theorem e_plan {G : jG} {d : Nat} {M : jMem} {Q : Option Value → jMem → Prop} (hI : jO M) {k : Int} (hk : jR k) (hB : ¬ (0 ≤ k ∧ k < M 8 2) → Q (some (.long (jL (-9000000000000000001)))) M) (h : 0 ≤ k → k < M 8 2 → ∀ p N, jplo M k p → jFE M N → Q (some (.long (jL ((jbs (jwt (M 39) (M 41) (M 42) (6 * M 40 k) p.toNat) (jsum (jwp (M 43 k) (M 45)) (M 8 8).toNat * M 49 0) (M 49 1) (jgw (M 43 k) (M 46) (M 8 8).toNat) (48 - (jgw (M 43 k) (M 46) (M 8 8).toNat)).toNat).1)))) (jplE N k ((jbs (jwt (M 39) (M 41) (M 42) (6 * M 40 k) p.toNat) (jsum (jwp (M 43 k) (M 45)) (M 8 8).toNat * M 49 0) (M 49 1) (jgw (M 43 k) (M 46) (M 8 8).toNat) (48 - (jgw (M 43 k) (M 46) (M 8 8).toNat)).toNat).1) (N 8 8))) : jN G mX8_plan (d + 4) [.ref (jad G 8), .int (jI k)] M Q := by
  show jM G mX8_plan (d + 4) 0 [.ref (jad G 8), .int (jI k), .null, .null] [] M Q
  have hz := jn1 hI
  refine jr_aload_n (n := 1) dX8_plan_0 rfl rfl ?_
  refine jr_iload_n (n := 2) dX8_plan_1 rfl rfl ?_
  refine jr_cV1 (n := 5) (ci := 8) (ν := mX8_isCase) dX8_plan_2 rfl lX8_118 kX8_isCase iX8_isCase rfl ⟨_, rfl, rfl⟩ (by decide) (Nat.le_of_ble_eq_true rfl) (Nat.le_of_ble_eq_true rfl) rfl ?_
  refine e_isCase (by omega) (by omega) (fun b2 b2b => ?_) (fun b2 => ?_)
  · refine jr_ifT_ne (t := 12) dX8_plan_5 (by decide) (by decide) (by decide) ?_
    refine jr_aload_n (n := 13) dX8_plan_12 rfl rfl ?_
    refine jr_iload_n (n := 14) dX8_plan_13 rfl rfl ?_
    refine jr_cV1 (n := 17) (ci := 8) (ν := mX8_bestFor) dX8_plan_14 rfl lX8_142 kX8_bestFor iX8_bestFor rfl ⟨_, rfl, rfl⟩ (by decide) (Nat.le_of_ble_eq_true rfl) (Nat.le_of_ble_eq_true rfl) rfl ?_
    refine e_bestFor hI (by omega) (fun p N hp hN => ?_)
    have hbq := jbe_R hI (k := k) (p := p)
    refine jr_istore2 (n := 18) dX8_plan_17 rfl (by decide) rfl ?_
    refine jr_iconst (n := 19) dX8_plan_18 rfl ?_
    refine jr_istore3 (n := 20) dX8_plan_19 rfl (by decide) rfl ?_
    have hK := jO_E hN hI
    have n8 := hN.2 8 (by decide)
    have k9 := e_plan_l (G := G) (d := d) (Q := Q) (k := k) hK (by omega) hbq (h (by omega) (by omega) p N hp hN) ((M 8 8).toNat + 1) 0 (by omega) (by omega) (by omega)
    unfold jplE at k9
    rw [Int.add_zero, jcb_0] at k9
    exact k9
  · refine jr_ifF_ne (n := 8) (t := 12) dX8_plan_5 rfl (by decide) (by decide) (by decide) ?_
    refine jr_ldc2 (n := 11) dX8_plan_8 rfl rfl qX8_107 vX8_107 ?_
    refine jr_lret dX8_plan_11 rfl ?_
    first | exact hB (by omega)

