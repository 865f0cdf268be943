/-! the tree of the program -/
section
variable {op a b fi nx pa : Nat → Int32} {N : Nat} {oc pc E lv : Nat → Nat} {kd : Nat → Nat → Nat} {SC : Nat → Int32 → Prop}
def ct_mx (o : Nat) : Nat := if o < 5 ∨ o = 16 then 2 else if o = 5 then 3 else if o = 6 ∨ o = 7 ∨ o = 8 ∨ o = 10 then 96 else if o = 11 then 4 else if 19 ≤ o then 0 else 1
def ct_mn (o : Nat) : Nat := if o = 6 ∨ o = 10 then 0 else if o = 7 ∨ o = 8 ∨ o = 11 then 1 else ct_mx o
/-- c is in scope in part i of list n -/
def ct_in (oc : Nat → Nat) (a b : Nat → Int32) (SC : Nat → Int32 → Prop) (n i : Nat) (c : Int32) : Prop :=
  SC n c ∨ (oc n = 8 ∧ 0 < i ∧ a n = c) ∨ (oc n = 10 ∧ a n ≤ c ∧ c < a n + b n)
def ct_nd (op a b fi nx pa : Nat → Int32) (N : Nat) (oc pc E lv : Nat → Nat) (kd : Nat → Nat → Nat) (SC : Nat → Int32 → Prop) (cl : Nat → Prop) (n : Nat) : Prop :=
  (oc n ≤ 21 ∧ op n = nI (oc n) ∧ pc n ≤ ct_mx (oc n) ∧ n + pc n < N)
  ∧ (oc n = 10 → ∃ p q, a n = nI p ∧ b n = nI q ∧ q ≤ 3 ∧ p + q ≤ 8)
  ∧ ((oc n = 21 ∨ oc n = 9) → SC n (a n))
  ∧ (1 ≤ lv n ∧ (oc n < 20 → lv n ≤ 16))
  ∧ ((pc n = 0 → fi n = -1) ∧ (0 < pc n → fi n = nI (kd n 0)))
  ∧ (∀ i, i < pc n → n < kd n i ∧ kd n i < N ∧ pa (kd n i) = nI n ∧ lv (kd n i) = lv n + 1
      ∧ (i + 1 < pc n → nx (kd n i) = nI (kd n (i + 1)) ∧ E (kd n i) ≤ kd n (i + 1) ∧ cl (kd n i))
      ∧ (i + 1 = pc n → nx (kd n i) = -1)
      ∧ (∀ c, SC (kd n i) c → ct_in oc a b SC n i c))
  ∧ (cl n → ct_mn (oc n) ≤ pc n ∧ n < E n ∧ E n ≤ N ∧ ∀ i, i < pc n → cl (kd n i) ∧ E (kd n i) ≤ E n)
/-- a program that is complete -/
def ct_all (op a b fi nx pa : Nat → Int32) (N : Nat) (oc pc E lv : Nat → Nat) (kd : Nat → Nat → Nat) (SC : Nat → Int32 → Prop) : Prop :=
  0 < N ∧ N ≤ 96 ∧ lv 0 = 1 ∧ (∀ c, ¬ SC 0 c) ∧ ∀ n, n < N → (ct_nd op a b fi nx pa N oc pc E lv kd SC (fun _ => True) n)
/-- the part behind: a node or none -/
def ct_nx (pc : Nat → Nat) (kd : Nat → Nat → Nat) (n q : Nat) : Int32 := if q < pc n then nI (kd n q) else -1
/-- how many parts a frame has taken -/
def ct_tk (o i : Nat) : Nat := if o = 5 then (if i = 0 then 0 else 1) else i
def cz_ (s : Nat) : Nat := if s = 0 then 0 else 1
/-- the values that a frame holds -/
def cf_S (F C o i : Nat) (sl kp : Nat → Int64) : Prop := (o = 8 → i = 0 → sl 0 = 0) ∧ ((o ≠ 5 ∧ o ≠ 6 ∧ o ≠ 7 ∧ o ≠ 8 ∧ o ≠ 10) → ∀ q, q < i → q < 3 → cv_R F C (sl q) (kp q))
/-- a frame of both sides: list n, part i, scope e -/
def cf_G (N : Nat) (oc pc lv : Nat → Nat) (a b : Nat → Int32) (SC : Nat → Int32 → Prop) (F C V : Nat) (D : Nat → Int32 → Prop) (z k k1 j n i e : Nat) (nd tk sc : Int32) (sl : Nat → Int64) (li ai en : Int32) (kp : Nat → Int64) : Prop :=
  (n < N ∧ oc n < 19 ∧ i < pc n ∧ e ≤ V) ∧ (nd = nI n ∧ tk = nI (ct_tk (oc n) i) ∧ sc = nI e) ∧ (li = nI n ∧ ai = nI i ∧ en = nI e - 1)
  ∧ (∀ c, ct_in oc a b SC n i c → D e c) ∧ cf_S F C (oc n) i sl kp ∧ (k1 = k + (if oc n = 10 then 1 else 0) ∧ z ≤ k1 ∧ j + 1 + k1 ≤ 16 * k1 + lv n + z)
/-- a frame that waits for the value of its part i -/
def cf_W (N : Nat) (oc pc E lv : Nat → Nat) (kd : Nat → Nat → Nat) (a b : Nat → Int32) (SC : Nat → Int32 → Prop) (F C V : Nat) (D : Nat → Int32 → Prop) (z k k1 t t1 j : Nat) (nd nn tk sc : Int32) (sl : Nat → Int64) (li ai en : Int32) (kp : Nat → Int64) : Prop :=
  ∃ n i e, (cf_G N oc pc lv a b SC F C V D z k k1 j n i e nd tk sc sl li ai en kp) ∧ nn = ct_nx pc kd n (i + 1) ∧ t + 4 * (E n - E (kd n i)) + 3 ≤ t1
/-- a frame whose part i is next -/
def cf_Rd (N : Nat) (oc pc E lv : Nat → Nat) (kd : Nat → Nat → Nat) (a b : Nat → Int32) (SC : Nat → Int32 → Prop) (F C V : Nat) (D : Nat → Int32 → Prop) (z k k1 t t1 j : Nat) (nd nn tk sc : Int32) (sl : Nat → Int64) (li ai en : Int32) (kp : Nat → Int64) : Prop :=
  ∃ n i e, (cf_G N oc pc lv a b SC F C V D z k k1 j n i e nd tk sc sl li ai en kp) ∧ nn = nI (kd n i) ∧ t + 4 * (E n - kd n i) + 3 ≤ t1
/-- where frame j of strand s lies with the reference -/
def cy_ (K : Nat → Nat → Nat) (s j : Nat) : Nat := 112 * s + (j + K s (j + 1) - cz_ s)
def cf_FX (N : Nat) (oc pc E lv : Nat → Nat) (kd : Nat → Nat → Nat) (a b : Nat → Int32) (SC : Nat → Int32 → Prop) (F C V : Nat) (D : Nat → Int32 → Prop) (K T : Nat → Nat → Nat) (fN fX fS fT : Nat → Int32) (fL : Nat → Int64) (yl ya ye : Nat → Int32) (yk : Nat → Int64) (s j : Nat) : Prop :=
  (cf_W N oc pc E lv kd a b SC F C V D (cz_ s) (K s j) (K s (j + 1)) (T s j) (T s (j + 1)) j (fN (s * 128 + j)) (fX (s * 128 + j)) (fT (s * 128 + j)) (fS (s * 128 + j)) (fun q => fL ((s * 128 + j) * 4 + q)) (yl (cy_ K s j)) (ya (cy_ K s j)) (ye (cy_ K s j)) (fun q => yk (3 * cy_ K s j + q)))
def cf_RX (N : Nat) (oc pc E lv : Nat → Nat) (kd : Nat → Nat → Nat) (a b : Nat → Int32) (SC : Nat → Int32 → Prop) (F C V : Nat) (D : Nat → Int32 → Prop) (K T : Nat → Nat → Nat) (fN fX fS fT : Nat → Int32) (fL : Nat → Int64) (yl ya ye : Nat → Int32) (yk : Nat → Int64) (s j : Nat) : Prop :=
  (cf_Rd N oc pc E lv kd a b SC F C V D (cz_ s) (K s j) (K s (j + 1)) (T s j) (T s (j + 1)) j (fN (s * 128 + j)) (fX (s * 128 + j)) (fT (s * 128 + j)) (fS (s * 128 + j)) (fun q => fL ((s * 128 + j) * 4 + q)) (yl (cy_ K s j)) (ya (cy_ K s j)) (ye (cy_ K s j)) (fun q => yk (3 * cy_ K s j + q)))
/-- the lowest h frames of strand s wait -/
def cf_FR (N : Nat) (oc pc E lv : Nat → Nat) (kd : Nat → Nat → Nat) (a b : Nat → Int32) (SC : Nat → Int32 → Prop) (F C V : Nat) (D : Nat → Int32 → Prop) (K T : Nat → Nat → Nat) (fN fX fS fT : Nat → Int32) (fL : Nat → Int64) (yl ya ye : Nat → Int32) (yk : Nat → Int64) (s h : Nat) : Prop :=
  ∀ j, j < h → (cf_FX N oc pc E lv kd a b SC F C V D K T fN fX fS fT fL yl ya ye yk s j)
/-- the variables -/
def cd_V (F C V : Nat) (D : Nat → Int32 → Prop) (vn vo : Nat → Int32) (vv : Nat → Int64) (wn wu : Nat → Int32) (wv : Nat → Int64) : Prop :=
  (∀ c, ¬ D 0 c) ∧ ∀ v, v < V → vn (v + 1) = wn v ∧ cv_R F C (vv (v + 1)) (wv v) ∧ ∃ o, o ≤ v ∧ vo (v + 1) = nI o ∧ wu v = nI o - 1 ∧ ∀ c, D (v + 1) c → (wn v = c ∨ D o c)
/-- the functions -/
def cd_F (N : Nat) (oc : Nat → Nat) (SC : Nat → Int32 → Prop) (F C V : Nat) (D : Nat → Int32 → Prop) (fn fe gn ge : Nat → Int32) : Prop :=
  ∀ f, f < F → ∃ n e, n < N ∧ oc n = 10 ∧ e ≤ V ∧ fn f = nI n ∧ gn f = nI n ∧ fe f = nI e ∧ ge f = nI e - 1 ∧ ∀ c, SC n c → D e c
/-- a strand that stands still above its frame H s (its RESUME or YIELD) -/
def cs_S (N : Nat) (oc pc E lv : Nat → Nat) (kd : Nat → Nat → Nat) (a b : Nat → Int32) (SC : Nat → Int32 → Prop) (F C V : Nat) (D : Nat → Int32 → Prop) (K T : Nat → Nat → Nat) (fN fX fS fT : Nat → Int32) (fL : Nat → Int64) (yl ya ye : Nat → Int32) (yk : Nat → Int64) (P H : Nat → Nat) (dep : Nat) (xh xc yt yc : Nat → Int32) (s : Nat) : Prop :=
  (cf_FR N oc pc E lv kd a b SC F C V D K T fN fX fS fT fL yl ya ye yk s (H s)) ∧ (K s (H s) ≤ dep ∧ cz_ s ≤ H s ∧ T s (H s) + 2 ≤ P s ∧ H s + 1 + K s (H s) ≤ 112 + cz_ s ∧ cz_ s ≤ K s (H s))
  ∧ (xh s = nI (H s + 1) ∧ yt s = nI (H s + 1 + K s (H s) - cz_ s) ∧ xc s = nI (K s (H s)) ∧ yc s = nI (K s (H s)))
  ∧ ∃ n, n < N ∧ oc n ≠ 10 ∧ yl (112 * s + (H s + K s (H s) - cz_ s)) = nI n
/-- a coroutine -/
def cs_C (N : Nat) (oc pc E lv : Nat → Nat) (kd : Nat → Nat → Nat) (a b : Nat → Int32) (SC : Nat → Int32 → Prop) (F C V : Nat) (D : Nat → Int32 → Prop) (K T : Nat → Nat → Nat) (fN fX fS fT : Nat → Int32) (fL : Nat → Int64) (yl ya ye : Nat → Int32) (yk : Nat → Int64) (P H : Nat → Nat) (dep : Nat) (xh xc yt yc fn xst xf yst yf : Nat → Int32) (s : Nat) : Prop :=
  (∃ w, w ≤ 2 ∧ xst s = nI w ∧ yst s = nI w) ∧ (∃ f n q, f < F ∧ xf s = nI f ∧ yf s = nI f ∧ fn f = nI n ∧ n < N ∧ b n = nI q ∧ q ≤ 1)
  ∧ (xst s = 0 → (xh s = 0 ∧ yt s = 0 ∧ xc s = 0 ∧ yc s = 0) ∨ (cs_S N oc pc E lv kd a b SC F C V D K T fN fX fS fT fL yl ya ye yk P H dep xh xc yt yc s))
/-- who resumed whom: Q 0 is the program, Q k is the active strand -/
def cs_Q (Q : Nat → Nat) (k C : Nat) (xst xr yr : Nat → Int32) : Prop :=
  Q 0 = 0 ∧ (∀ i j, i ≤ k → j ≤ k → Q i = Q j → i = j) ∧ (∀ i, 1 ≤ i → i ≤ k → 1 ≤ Q i ∧ Q i ≤ C ∧ xst (Q i) = 1)
  ∧ (∀ i, i < k → xr (Q (i + 1)) = nI (Q i) ∧ yr (Q (i + 1)) = nI (Q i))
/-- all but what the active strand s has above its h waiting frames -/
def cc_C (N : Nat) (oc pc E lv : Nat → Nat) (kd : Nat → Nat → Nat) (a b : Nat → Int32) (SC : Nat → Int32 → Prop) (F C V : Nat) (D : Nat → Int32 → Prop) (K T : Nat → Nat → Nat) (fN fX fS fT : Nat → Int32) (fL : Nat → Int64) (yl ya ye : Nat → Int32) (yk : Nat → Int64) (P H : Nat → Nat) (dep : Nat) (xh xc yt yc fn fe gn ge vn vo : Nat → Int32) (vv : Nat → Int64) (wn wu : Nat → Int32) (wv : Nat → Int64) (xst xf xr yst yf yr : Nat → Int32) (Q : Nat → Nat) (k s h : Nat) : Prop :=
  (F ≤ 40 ∧ C ≤ 6 ∧ V ≤ 120 ∧ dep ≤ 6 ∧ 1 ≤ dep ∧ Q k = s) ∧ (∀ r, K r 0 = 0) ∧ (cd_V F C V D vn vo vv wn wu wv) ∧ (cd_F N oc SC F C V D fn fe gn ge) ∧ (cs_Q Q k C xst xr yr) ∧ (∀ i, i < k → (cs_S N oc pc E lv kd a b SC F C V D K T fN fX fS fT fL yl ya ye yk P H dep xh xc yt yc (Q i))) ∧ (∀ c, 1 ≤ c → c ≤ C → (cs_C N oc pc E lv kd a b SC F C V D K T fN fX fS fT fL yl ya ye yk P H dep xh xc yt yc fn xst xf yst yf c)) ∧ (∀ c, C < c → c < 7 → yt c = 0 ∧ yc c = 0) ∧ (cf_FR N oc pc E lv kd a b SC F C V D K T fN fX fS fT fL yl ya ye yk s h)
end
