section ZE
variable {p : Program} {l : Launch} {e : Env} {R : Room} {s : State} {m : MethodId} {args : Array Value} {below : List Frame} {meth : Method} {c : Code} {cells slots : Nat} {Q : State → Prop}

theorem z_join0 (I : Array Slot → Heap → List Loc → Prop) (pc : Nat) (st : List Value) {H0 : Heap} {locs0 : List Loc} {g : JFrame} (k : ∀ (ls : Array Slot) (H : Heap) (locs : List Loc), I ls H locs → W p l e R s m args below meth c H locs cells slots Q (F0 m pc ls st)) (kk : (∀ (ls : Array Slot) (H : Heap) (locs : List Loc), I ls H locs → W p l e R s m args below meth c H locs cells slots Q (F0 m pc ls st)) → W p l e R s m args below meth c H0 locs0 cells slots Q g) : W p l e R s m args below meth c H0 locs0 cells slots Q g := kk k
theorem z_loop1 {α : Type} (I : α → Array Slot → Heap → List Loc → Prop) (μ : α → Nat) {pc : Nat} {st : List Value} (step : ∀ (x0 : α) (ls : Array Slot) (H : Heap) (locs : List Loc), I x0 ls H locs → (∀ (y0 : α) (ls' : Array Slot) (H' : Heap) (locs' : List Loc), I y0 ls' H' locs' → μ y0 < μ x0 → W p l e R s m args below meth c H' locs' cells slots Q (F0 m pc ls' st)) → W p l e R s m args below meth c H locs cells slots Q (F0 m pc ls st)) : ∀ (x0 : α) (ls : Array Slot) (H : Heap) (locs : List Loc), I x0 ls H locs → W p l e R s m args below meth c H locs cells slots Q (F0 m pc ls st) := by
  have key : ∀ (n : Nat) (x0 : α) (ls : Array Slot) (H : Heap) (locs : List Loc), μ x0 < n → I x0 ls H locs → W p l e R s m args below meth c H locs cells slots Q (F0 m pc ls st) := by
    intro n
    induction n with
    | zero => intro x0 ls H locs h; exact absurd h (Nat.not_lt_zero _)
    | succ n ih => intro x0 ls H locs h hI; exact step x0 ls H locs hI (fun y0 ls' H' locs' hI' hlt => ih y0 ls' H' locs' (by omega) hI')
  intro x0 ls H locs hI
  exact key (μ x0 + 1) x0 ls H locs (Nat.lt_succ_self _) hI
theorem z_join1 {α : Type} (I : α → Array Slot → Heap → List Loc → Prop) (pc : Nat) (st : α → List Value) {H0 : Heap} {locs0 : List Loc} {g : JFrame} (k : ∀ (x0 : α) (ls : Array Slot) (H : Heap) (locs : List Loc), I x0 ls H locs → W p l e R s m args below meth c H locs cells slots Q (F0 m pc ls (st x0))) (kk : (∀ (x0 : α) (ls : Array Slot) (H : Heap) (locs : List Loc), I x0 ls H locs → W p l e R s m args below meth c H locs cells slots Q (F0 m pc ls (st x0))) → W p l e R s m args below meth c H0 locs0 cells slots Q g) : W p l e R s m args below meth c H0 locs0 cells slots Q g := kk k
theorem z_loop2 {α β : Type} (I : α → β → Array Slot → Heap → List Loc → Prop) (μ : α → β → Nat) {pc : Nat} {st : List Value} (step : ∀ (x0 : α) (x1 : β) (ls : Array Slot) (H : Heap) (locs : List Loc), I x0 x1 ls H locs → (∀ (y0 : α) (y1 : β) (ls' : Array Slot) (H' : Heap) (locs' : List Loc), I y0 y1 ls' H' locs' → μ y0 y1 < μ x0 x1 → W p l e R s m args below meth c H' locs' cells slots Q (F0 m pc ls' st)) → W p l e R s m args below meth c H locs cells slots Q (F0 m pc ls st)) : ∀ (x0 : α) (x1 : β) (ls : Array Slot) (H : Heap) (locs : List Loc), I x0 x1 ls H locs → W p l e R s m args below meth c H locs cells slots Q (F0 m pc ls st) := by
  have key : ∀ (n : Nat) (x0 : α) (x1 : β) (ls : Array Slot) (H : Heap) (locs : List Loc), μ x0 x1 < n → I x0 x1 ls H locs → W p l e R s m args below meth c H locs cells slots Q (F0 m pc ls st) := by
    intro n
    induction n with
    | zero => intro x0 x1 ls H locs h; exact absurd h (Nat.not_lt_zero _)
    | succ n ih => intro x0 x1 ls H locs h hI; exact step x0 x1 ls H locs hI (fun y0 y1 ls' H' locs' hI' hlt => ih y0 y1 ls' H' locs' (by omega) hI')
  intro x0 x1 ls H locs hI
  exact key (μ x0 x1 + 1) x0 x1 ls H locs (Nat.lt_succ_self _) hI
theorem z_join2 {α β : Type} (I : α → β → Array Slot → Heap → List Loc → Prop) (pc : Nat) (st : α → β → List Value) {H0 : Heap} {locs0 : List Loc} {g : JFrame} (k : ∀ (x0 : α) (x1 : β) (ls : Array Slot) (H : Heap) (locs : List Loc), I x0 x1 ls H locs → W p l e R s m args below meth c H locs cells slots Q (F0 m pc ls (st x0 x1))) (kk : (∀ (x0 : α) (x1 : β) (ls : Array Slot) (H : Heap) (locs : List Loc), I x0 x1 ls H locs → W p l e R s m args below meth c H locs cells slots Q (F0 m pc ls (st x0 x1))) → W p l e R s m args below meth c H0 locs0 cells slots Q g) : W p l e R s m args below meth c H0 locs0 cells slots Q g := kk k
theorem z_loop3 {α β γ : Type} (I : α → β → γ → Array Slot → Heap → List Loc → Prop) (μ : α → β → γ → Nat) {pc : Nat} {st : List Value} (step : ∀ (x0 : α) (x1 : β) (x2 : γ) (ls : Array Slot) (H : Heap) (locs : List Loc), I x0 x1 x2 ls H locs → (∀ (y0 : α) (y1 : β) (y2 : γ) (ls' : Array Slot) (H' : Heap) (locs' : List Loc), I y0 y1 y2 ls' H' locs' → μ y0 y1 y2 < μ x0 x1 x2 → W p l e R s m args below meth c H' locs' cells slots Q (F0 m pc ls' st)) → W p l e R s m args below meth c H locs cells slots Q (F0 m pc ls st)) : ∀ (x0 : α) (x1 : β) (x2 : γ) (ls : Array Slot) (H : Heap) (locs : List Loc), I x0 x1 x2 ls H locs → W p l e R s m args below meth c H locs cells slots Q (F0 m pc ls st) := by
  have key : ∀ (n : Nat) (x0 : α) (x1 : β) (x2 : γ) (ls : Array Slot) (H : Heap) (locs : List Loc), μ x0 x1 x2 < n → I x0 x1 x2 ls H locs → W p l e R s m args below meth c H locs cells slots Q (F0 m pc ls st) := by
    intro n
    induction n with
    | zero => intro x0 x1 x2 ls H locs h; exact absurd h (Nat.not_lt_zero _)
    | succ n ih => intro x0 x1 x2 ls H locs h hI; exact step x0 x1 x2 ls H locs hI (fun y0 y1 y2 ls' H' locs' hI' hlt => ih y0 y1 y2 ls' H' locs' (by omega) hI')
  intro x0 x1 x2 ls H locs hI
  exact key (μ x0 x1 x2 + 1) x0 x1 x2 ls H locs (Nat.lt_succ_self _) hI
theorem z_join3 {α β γ : Type} (I : α → β → γ → Array Slot → Heap → List Loc → Prop) (pc : Nat) (st : α → β → γ → List Value) {H0 : Heap} {locs0 : List Loc} {g : JFrame} (k : ∀ (x0 : α) (x1 : β) (x2 : γ) (ls : Array Slot) (H : Heap) (locs : List Loc), I x0 x1 x2 ls H locs → W p l e R s m args below meth c H locs cells slots Q (F0 m pc ls (st x0 x1 x2))) (kk : (∀ (x0 : α) (x1 : β) (x2 : γ) (ls : Array Slot) (H : Heap) (locs : List Loc), I x0 x1 x2 ls H locs → W p l e R s m args below meth c H locs cells slots Q (F0 m pc ls (st x0 x1 x2))) → W p l e R s m args below meth c H0 locs0 cells slots Q g) : W p l e R s m args below meth c H0 locs0 cells slots Q g := kk k
theorem z_loop4 {α β γ δ : Type} (I : α → β → γ → δ → Array Slot → Heap → List Loc → Prop) (μ : α → β → γ → δ → Nat) {pc : Nat} {st : List Value} (step : ∀ (x0 : α) (x1 : β) (x2 : γ) (x3 : δ) (ls : Array Slot) (H : Heap) (locs : List Loc), I x0 x1 x2 x3 ls H locs → (∀ (y0 : α) (y1 : β) (y2 : γ) (y3 : δ) (ls' : Array Slot) (H' : Heap) (locs' : List Loc), I y0 y1 y2 y3 ls' H' locs' → μ y0 y1 y2 y3 < μ x0 x1 x2 x3 → W p l e R s m args below meth c H' locs' cells slots Q (F0 m pc ls' st)) → W p l e R s m args below meth c H locs cells slots Q (F0 m pc ls st)) : ∀ (x0 : α) (x1 : β) (x2 : γ) (x3 : δ) (ls : Array Slot) (H : Heap) (locs : List Loc), I x0 x1 x2 x3 ls H locs → W p l e R s m args below meth c H locs cells slots Q (F0 m pc ls st) := by
  have key : ∀ (n : Nat) (x0 : α) (x1 : β) (x2 : γ) (x3 : δ) (ls : Array Slot) (H : Heap) (locs : List Loc), μ x0 x1 x2 x3 < n → I x0 x1 x2 x3 ls H locs → W p l e R s m args below meth c H locs cells slots Q (F0 m pc ls st) := by
    intro n
    induction n with
    | zero => intro x0 x1 x2 x3 ls H locs h; exact absurd h (Nat.not_lt_zero _)
    | succ n ih => intro x0 x1 x2 x3 ls H locs h hI; exact step x0 x1 x2 x3 ls H locs hI (fun y0 y1 y2 y3 ls' H' locs' hI' hlt => ih y0 y1 y2 y3 ls' H' locs' (by omega) hI')
  intro x0 x1 x2 x3 ls H locs hI
  exact key (μ x0 x1 x2 x3 + 1) x0 x1 x2 x3 ls H locs (Nat.lt_succ_self _) hI
theorem z_join4 {α β γ δ : Type} (I : α → β → γ → δ → Array Slot → Heap → List Loc → Prop) (pc : Nat) (st : α → β → γ → δ → List Value) {H0 : Heap} {locs0 : List Loc} {g : JFrame} (k : ∀ (x0 : α) (x1 : β) (x2 : γ) (x3 : δ) (ls : Array Slot) (H : Heap) (locs : List Loc), I x0 x1 x2 x3 ls H locs → W p l e R s m args below meth c H locs cells slots Q (F0 m pc ls (st x0 x1 x2 x3))) (kk : (∀ (x0 : α) (x1 : β) (x2 : γ) (x3 : δ) (ls : Array Slot) (H : Heap) (locs : List Loc), I x0 x1 x2 x3 ls H locs → W p l e R s m args below meth c H locs cells slots Q (F0 m pc ls (st x0 x1 x2 x3))) → W p l e R s m args below meth c H0 locs0 cells slots Q g) : W p l e R s m args below meth c H0 locs0 cells slots Q g := kk k
theorem z_loop5 {α β γ δ ε : Type} (I : α → β → γ → δ → ε → Array Slot → Heap → List Loc → Prop) (μ : α → β → γ → δ → ε → Nat) {pc : Nat} {st : List Value} (step : ∀ (x0 : α) (x1 : β) (x2 : γ) (x3 : δ) (x4 : ε) (ls : Array Slot) (H : Heap) (locs : List Loc), I x0 x1 x2 x3 x4 ls H locs → (∀ (y0 : α) (y1 : β) (y2 : γ) (y3 : δ) (y4 : ε) (ls' : Array Slot) (H' : Heap) (locs' : List Loc), I y0 y1 y2 y3 y4 ls' H' locs' → μ y0 y1 y2 y3 y4 < μ x0 x1 x2 x3 x4 → W p l e R s m args below meth c H' locs' cells slots Q (F0 m pc ls' st)) → W p l e R s m args below meth c H locs cells slots Q (F0 m pc ls st)) : ∀ (x0 : α) (x1 : β) (x2 : γ) (x3 : δ) (x4 : ε) (ls : Array Slot) (H : Heap) (locs : List Loc), I x0 x1 x2 x3 x4 ls H locs → W p l e R s m args below meth c H locs cells slots Q (F0 m pc ls st) := by
  have key : ∀ (n : Nat) (x0 : α) (x1 : β) (x2 : γ) (x3 : δ) (x4 : ε) (ls : Array Slot) (H : Heap) (locs : List Loc), μ x0 x1 x2 x3 x4 < n → I x0 x1 x2 x3 x4 ls H locs → W p l e R s m args below meth c H locs cells slots Q (F0 m pc ls st) := by
    intro n
    induction n with
    | zero => intro x0 x1 x2 x3 x4 ls H locs h; exact absurd h (Nat.not_lt_zero _)
    | succ n ih => intro x0 x1 x2 x3 x4 ls H locs h hI; exact step x0 x1 x2 x3 x4 ls H locs hI (fun y0 y1 y2 y3 y4 ls' H' locs' hI' hlt => ih y0 y1 y2 y3 y4 ls' H' locs' (by omega) hI')
  intro x0 x1 x2 x3 x4 ls H locs hI
  exact key (μ x0 x1 x2 x3 x4 + 1) x0 x1 x2 x3 x4 ls H locs (Nat.lt_succ_self _) hI
theorem z_join5 {α β γ δ ε : Type} (I : α → β → γ → δ → ε → Array Slot → Heap → List Loc → Prop) (pc : Nat) (st : α → β → γ → δ → ε → List Value) {H0 : Heap} {locs0 : List Loc} {g : JFrame} (k : ∀ (x0 : α) (x1 : β) (x2 : γ) (x3 : δ) (x4 : ε) (ls : Array Slot) (H : Heap) (locs : List Loc), I x0 x1 x2 x3 x4 ls H locs → W p l e R s m args below meth c H locs cells slots Q (F0 m pc ls (st x0 x1 x2 x3 x4))) (kk : (∀ (x0 : α) (x1 : β) (x2 : γ) (x3 : δ) (x4 : ε) (ls : Array Slot) (H : Heap) (locs : List Loc), I x0 x1 x2 x3 x4 ls H locs → W p l e R s m args below meth c H locs cells slots Q (F0 m pc ls (st x0 x1 x2 x3 x4))) → W p l e R s m args below meth c H0 locs0 cells slots Q g) : W p l e R s m args below meth c H0 locs0 cells slots Q g := kk k
theorem z_loop6 {α β γ δ ε ζ : Type} (I : α → β → γ → δ → ε → ζ → Array Slot → Heap → List Loc → Prop) (μ : α → β → γ → δ → ε → ζ → Nat) {pc : Nat} {st : List Value} (step : ∀ (x0 : α) (x1 : β) (x2 : γ) (x3 : δ) (x4 : ε) (x5 : ζ) (ls : Array Slot) (H : Heap) (locs : List Loc), I x0 x1 x2 x3 x4 x5 ls H locs → (∀ (y0 : α) (y1 : β) (y2 : γ) (y3 : δ) (y4 : ε) (y5 : ζ) (ls' : Array Slot) (H' : Heap) (locs' : List Loc), I y0 y1 y2 y3 y4 y5 ls' H' locs' → μ y0 y1 y2 y3 y4 y5 < μ x0 x1 x2 x3 x4 x5 → W p l e R s m args below meth c H' locs' cells slots Q (F0 m pc ls' st)) → W p l e R s m args below meth c H locs cells slots Q (F0 m pc ls st)) : ∀ (x0 : α) (x1 : β) (x2 : γ) (x3 : δ) (x4 : ε) (x5 : ζ) (ls : Array Slot) (H : Heap) (locs : List Loc), I x0 x1 x2 x3 x4 x5 ls H locs → W p l e R s m args below meth c H locs cells slots Q (F0 m pc ls st) := by
  have key : ∀ (n : Nat) (x0 : α) (x1 : β) (x2 : γ) (x3 : δ) (x4 : ε) (x5 : ζ) (ls : Array Slot) (H : Heap) (locs : List Loc), μ x0 x1 x2 x3 x4 x5 < n → I x0 x1 x2 x3 x4 x5 ls H locs → W p l e R s m args below meth c H locs cells slots Q (F0 m pc ls st) := by
    intro n
    induction n with
    | zero => intro x0 x1 x2 x3 x4 x5 ls H locs h; exact absurd h (Nat.not_lt_zero _)
    | succ n ih => intro x0 x1 x2 x3 x4 x5 ls H locs h hI; exact step x0 x1 x2 x3 x4 x5 ls H locs hI (fun y0 y1 y2 y3 y4 y5 ls' H' locs' hI' hlt => ih y0 y1 y2 y3 y4 y5 ls' H' locs' (by omega) hI')
  intro x0 x1 x2 x3 x4 x5 ls H locs hI
  exact key (μ x0 x1 x2 x3 x4 x5 + 1) x0 x1 x2 x3 x4 x5 ls H locs (Nat.lt_succ_self _) hI
theorem z_join6 {α β γ δ ε ζ : Type} (I : α → β → γ → δ → ε → ζ → Array Slot → Heap → List Loc → Prop) (pc : Nat) (st : α → β → γ → δ → ε → ζ → List Value) {H0 : Heap} {locs0 : List Loc} {g : JFrame} (k : ∀ (x0 : α) (x1 : β) (x2 : γ) (x3 : δ) (x4 : ε) (x5 : ζ) (ls : Array Slot) (H : Heap) (locs : List Loc), I x0 x1 x2 x3 x4 x5 ls H locs → W p l e R s m args below meth c H locs cells slots Q (F0 m pc ls (st x0 x1 x2 x3 x4 x5))) (kk : (∀ (x0 : α) (x1 : β) (x2 : γ) (x3 : δ) (x4 : ε) (x5 : ζ) (ls : Array Slot) (H : Heap) (locs : List Loc), I x0 x1 x2 x3 x4 x5 ls H locs → W p l e R s m args below meth c H locs cells slots Q (F0 m pc ls (st x0 x1 x2 x3 x4 x5))) → W p l e R s m args below meth c H0 locs0 cells slots Q g) : W p l e R s m args below meth c H0 locs0 cells slots Q g := kk k
theorem z_loop7 {α β γ δ ε ζ η : Type} (I : α → β → γ → δ → ε → ζ → η → Array Slot → Heap → List Loc → Prop) (μ : α → β → γ → δ → ε → ζ → η → Nat) {pc : Nat} {st : List Value} (step : ∀ (x0 : α) (x1 : β) (x2 : γ) (x3 : δ) (x4 : ε) (x5 : ζ) (x6 : η) (ls : Array Slot) (H : Heap) (locs : List Loc), I x0 x1 x2 x3 x4 x5 x6 ls H locs → (∀ (y0 : α) (y1 : β) (y2 : γ) (y3 : δ) (y4 : ε) (y5 : ζ) (y6 : η) (ls' : Array Slot) (H' : Heap) (locs' : List Loc), I y0 y1 y2 y3 y4 y5 y6 ls' H' locs' → μ y0 y1 y2 y3 y4 y5 y6 < μ x0 x1 x2 x3 x4 x5 x6 → W p l e R s m args below meth c H' locs' cells slots Q (F0 m pc ls' st)) → W p l e R s m args below meth c H locs cells slots Q (F0 m pc ls st)) : ∀ (x0 : α) (x1 : β) (x2 : γ) (x3 : δ) (x4 : ε) (x5 : ζ) (x6 : η) (ls : Array Slot) (H : Heap) (locs : List Loc), I x0 x1 x2 x3 x4 x5 x6 ls H locs → W p l e R s m args below meth c H locs cells slots Q (F0 m pc ls st) := by
  have key : ∀ (n : Nat) (x0 : α) (x1 : β) (x2 : γ) (x3 : δ) (x4 : ε) (x5 : ζ) (x6 : η) (ls : Array Slot) (H : Heap) (locs : List Loc), μ x0 x1 x2 x3 x4 x5 x6 < n → I x0 x1 x2 x3 x4 x5 x6 ls H locs → W p l e R s m args below meth c H locs cells slots Q (F0 m pc ls st) := by
    intro n
    induction n with
    | zero => intro x0 x1 x2 x3 x4 x5 x6 ls H locs h; exact absurd h (Nat.not_lt_zero _)
    | succ n ih => intro x0 x1 x2 x3 x4 x5 x6 ls H locs h hI; exact step x0 x1 x2 x3 x4 x5 x6 ls H locs hI (fun y0 y1 y2 y3 y4 y5 y6 ls' H' locs' hI' hlt => ih y0 y1 y2 y3 y4 y5 y6 ls' H' locs' (by omega) hI')
  intro x0 x1 x2 x3 x4 x5 x6 ls H locs hI
  exact key (μ x0 x1 x2 x3 x4 x5 x6 + 1) x0 x1 x2 x3 x4 x5 x6 ls H locs (Nat.lt_succ_self _) hI
theorem z_join7 {α β γ δ ε ζ η : Type} (I : α → β → γ → δ → ε → ζ → η → Array Slot → Heap → List Loc → Prop) (pc : Nat) (st : α → β → γ → δ → ε → ζ → η → List Value) {H0 : Heap} {locs0 : List Loc} {g : JFrame} (k : ∀ (x0 : α) (x1 : β) (x2 : γ) (x3 : δ) (x4 : ε) (x5 : ζ) (x6 : η) (ls : Array Slot) (H : Heap) (locs : List Loc), I x0 x1 x2 x3 x4 x5 x6 ls H locs → W p l e R s m args below meth c H locs cells slots Q (F0 m pc ls (st x0 x1 x2 x3 x4 x5 x6))) (kk : (∀ (x0 : α) (x1 : β) (x2 : γ) (x3 : δ) (x4 : ε) (x5 : ζ) (x6 : η) (ls : Array Slot) (H : Heap) (locs : List Loc), I x0 x1 x2 x3 x4 x5 x6 ls H locs → W p l e R s m args below meth c H locs cells slots Q (F0 m pc ls (st x0 x1 x2 x3 x4 x5 x6))) → W p l e R s m args below meth c H0 locs0 cells slots Q g) : W p l e R s m args below meth c H0 locs0 cells slots Q g := kk k
theorem z_name {H : Heap} {locs : List Loc} {pc : Nat} {ls : Array Slot} {rest : List Value} {x : Int} (k : ∀ y : Int, y = x → W p l e R s m args below meth c H locs cells slots Q (F0 m pc ls (.int (iI y) :: rest))) : W p l e R s m args below meth c H locs cells slots Q (F0 m pc ls (.int (iI x) :: rest)) := k x rfl
theorem z_nameL {H : Heap} {locs : List Loc} {pc : Nat} {ls : Array Slot} {rest : List Value} {x : Int} (k : ∀ y : Int, y = x → W p l e R s m args below meth c H locs cells slots Q (F0 m pc ls (.long (lI y) :: rest))) : W p l e R s m args below meth c H locs cells slots Q (F0 m pc ls (.long (lI x) :: rest)) := k x rfl
end ZE
/-- a row may be told by any numbers that agree with it where it has places -/
theorem zcell_I {cA : ClassId} {n : Nat} {f g : Int → Int} (h : ∀ j : Int, 0 ≤ j → j < n → f j = g j) : vp_cell cA (n, .inl (aI f)) = vp_cell cA (n, .inl (aI g)) := by
  rw [vp_cell_i, vp_cell_i]
  unfold arrV
  congr 1
  apply Array.ext
  · simp
  · intro i h1 h2
    simp at h1
    simp [aI, h (i : Int) (by omega) (by omega)]
theorem zcell_L {cA : ClassId} {n : Nat} {f g : Int → Int} (h : ∀ j : Int, 0 ≤ j → j < n → f j = g j) : vp_cell cA (n, .inr (.inl (aL f))) = vp_cell cA (n, .inr (.inl (aL g))) := by
  show arrV cA n (fun j => .long (aL f j)) = arrV cA n (fun j => .long (aL g j))
  unfold arrV
  congr 1
  apply Array.ext
  · simp
  · intro i h1 h2
    simp at h1
    simp [aL, h (i : Int) (by omega) (by omega)]
theorem z_row {G : va_G} {tys : List (ClassId × FieldType)} {A : Nat → Prop} {s : State} {ws : va_W} {H : Heap} {locs : List Loc} (hW : zW G tys A s ws H locs) (k : Nat) {b : Nat} {cA : ClassId} {n : Nat} {f : Int → Int} (g : Int → Int) (hk : ws[k]? = some (b, .inl (cA, n, .inl (aI f)))) (h : ∀ j : Int, 0 ≤ j → j < n → f j = g j) : zW G tys A s (ws.set k (b, .inl (cA, n, .inl (aI g)))) H locs := by
  refine ⟨hW.1, hW.2.1.set hW.2.2.1 hk ?_ (fun _ _ => rfl), hW.2.2.1.set hk, hW.2.2.2⟩
  show H[b]? = some (vp_cell cA (n, .inl (aI g)))
  rw [← zcell_I h]
  exact hW.2.1 k _ hk
theorem z_rowL {G : va_G} {tys : List (ClassId × FieldType)} {A : Nat → Prop} {s : State} {ws : va_W} {H : Heap} {locs : List Loc} (hW : zW G tys A s ws H locs) (k : Nat) {b : Nat} {cA : ClassId} {n : Nat} {f : Int → Int} (g : Int → Int) (hk : ws[k]? = some (b, .inl (cA, n, .inr (.inl (aL f))))) (h : ∀ j : Int, 0 ≤ j → j < n → f j = g j) : zW G tys A s (ws.set k (b, .inl (cA, n, .inr (.inl (aL g))))) H locs := by
  refine ⟨hW.1, hW.2.1.set hW.2.2.1 hk ?_ (fun _ _ => rfl), hW.2.2.1.set hk, hW.2.2.2⟩
  show H[b]? = some (vp_cell cA (n, .inr (.inl (aL g))))
  rw [← zcell_L h]
  exact hW.2.1 k _ hk

