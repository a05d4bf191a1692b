/-! ===== the law's start: both objects made ===== -/
section START
variable {p : Program} {l : Launch} {e : Jvm.Env} {R : Room} {s : State} {m : MethodId} {args : Array Value} {below : List Frame} {meth : Method} {c : Code} {D : va_G} {cA : ClassId} {h0 sb : Nat} {A : Nat → Prop} {Q : State → Prop} {bb : ByteArray} {own : String} {ti : Option Nat} {fr lo mc ms pc : Nat} {st F : List kv} {C : List kc}
theorem KK.as1 (hx : KC (p, l, e, R, s, m, args, below, meth, c, D, cA, h0, [Value.ref sb], A, Q) bb 4 own ti fr lo mc ms) {v : Nat} (hd : decode bb pc = .ok (.astore_n 1, 1)) (k : KW (p, l, e, R, s, m, args, below, meth, c, D, cA, h0, [Value.ref sb], A, Q) 4 ti (pc + 1) [some (2, 0), some (3, (v : Int)), none, none] st F C) : KW (p, l, e, R, s, m, args, below, meth, c, D, cA, h0, [Value.ref sb], A, Q) 4 ti pc [some (2, 0), none, none, none] ((3, (v : Int)) :: st) F C := by
  obtain ⟨h1, h2, h3, h4, h5, h6, h7, h8, h9, h10, h11, h12, h13⟩ := hx
  intro H ls locs hP hz hL hS
  have hh : lv_has ls 4 [(0, Value.ref sb)] := ⟨hL.1, hL.2.1, fun z hz => by rw [List.mem_singleton.mp hz]; exact hL.2.2 0 _ rfl⟩
  refine lv_astore_n (k := 1) h1 h2 hd rfl hh (by decide) rfl (fun ls' h' => k H ls' locs hP hz ⟨h'.1, h'.2.1, fun i q hq => ?_⟩ hS)
  match i, hq with
  | 0, hq => cases (show some ((2 : Nat), (0 : Int)) = some q from hq); exact h'.2.2 (0, _) (List.mem_cons_of_mem _ List.mem_cons_self)
  | 1, hq => cases (show some ((3 : Nat), (v : Int)) = some q from hq); exact h'.2.2 (1, _) List.mem_cons_self
  | 2, hq => cases (show (none : Option kv) = some q from hq)
  | 3, hq => cases (show (none : Option kv) = some q from hq)
  | i + 4, hq => cases (show (none : Option kv) = some q from hq)
theorem KK.as2 (hx : KC (p, l, e, R, s, m, args, below, meth, c, D, cA, h0, [Value.ref sb], A, Q) bb 4 own ti fr lo mc ms) {u v : Nat} (hd : decode bb pc = .ok (.astore_n 2, 1)) (k : KW (p, l, e, R, s, m, args, below, meth, c, D, cA, h0, [Value.ref sb], A, Q) 4 ti (pc + 1) [some (2, 0), some (3, (u : Int)), some (3, (v : Int)), none] st F C) : KW (p, l, e, R, s, m, args, below, meth, c, D, cA, h0, [Value.ref sb], A, Q) 4 ti pc [some (2, 0), some (3, (u : Int)), none, none] ((3, (v : Int)) :: st) F C := by
  obtain ⟨h1, h2, h3, h4, h5, h6, h7, h8, h9, h10, h11, h12, h13⟩ := hx
  intro H ls locs hP hz hL hS
  have hh : lv_has ls 4 [(0, Value.ref sb), (1, Value.ref (s.heap.size + (u : Int).toNat))] := ⟨hL.1, hL.2.1, fun z hz => by
    rcases List.mem_cons.mp hz with e | hz
    · rw [e]; exact hL.2.2 0 _ rfl
    · rw [List.mem_singleton.mp hz]; exact hL.2.2 1 _ rfl⟩
  refine lv_astore_n (k := 2) h1 h2 hd rfl hh (by decide) rfl (fun ls' h' => k H ls' locs hP hz ⟨h'.1, h'.2.1, fun i q hq => ?_⟩ hS)
  match i, hq with
  | 0, hq => cases (show some ((2 : Nat), (0 : Int)) = some q from hq); exact h'.2.2 (0, _) (List.mem_cons_of_mem _ List.mem_cons_self)
  | 1, hq => cases (show some ((3 : Nat), (u : Int)) = some q from hq); exact h'.2.2 (1, _) (List.mem_cons_of_mem _ (List.mem_cons_of_mem _ List.mem_cons_self))
  | 2, hq => cases (show some ((3 : Nat), (v : Int)) = some q from hq); exact h'.2.2 (2, _) List.mem_cons_self
  | 3, hq => cases (show (none : Option kv) = some q from hq)
  | i + 4, hq => cases (show (none : Option kv) = some q from hq)
end START
