/-! ===== symbolic runs: an instruction with what its pool says ===== -/
/-- pc, instruction, length; kind, two numbers and a value out of the pool -/
abbrev sx_I : Type := Nat × Instr × Nat × Nat × Nat × Nat × Int
def sx_pl (o idx : Nat) (e : sx_I) : Bool := match mm_look o idx with
  | some q => decide (q.1 = idx) && decide (q.2.1 = e.2.2.2.1) && decide (q.2.2.1 = e.2.2.2.2.1) && decide (q.2.2.2.1 = e.2.2.2.2.2.1) && decide (q.2.2.2.2.1 = e.2.2.2.2.2.2)
  | none => decide (e.2.2.2.1 = 99)
def sx_chk (o : Nat) (bytes : ByteArray) (e : sx_I) : Bool := decide (decode bytes e.1 = .ok (e.2.1, e.2.2.1)) && match e.2.1 with
  | .getfield idx => sx_pl o idx e
  | .putfield idx => sx_pl o idx e
  | .invokevirtual idx => sx_pl o idx e
  | .invokestatic idx => sx_pl o idx e
  | .invokespecial idx => sx_pl o idx e
  | .ldc idx => sx_pl o idx e
  | .ldc_w idx => sx_pl o idx e
  | .ldc2_w idx => sx_pl o idx e
  | .new idx => sx_pl o idx e
  | .anewarray idx => sx_pl o idx e
  | .getstatic idx => sx_pl o idx e
  | _ => true
theorem sx_ck {l : List sx_I} {p : sx_I → Bool} {a : Nat} (n : Nat) (h1 : ((l.drop a).take n).all p = true) (h2 : (l.drop (a + n)).all p = true) : (l.drop a).all p = true := by
  rw [← List.take_append_drop n (l.drop a), List.all_append, h1, List.drop_drop, h2]
  rfl
theorem sx_ce {l : List sx_I} {p : sx_I → Bool} {a n : Nat} (h1 : ((l.drop a).take n).all p = true) (h2 : (l.drop a).take n = l.drop a) : (l.drop a).all p = true := by rw [← h2]; exact h1
