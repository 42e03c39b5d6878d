-- 84: call: order (still by sorry)
section CALLS
variable {S : SC} {A : AS}
theorem k_order (w : Wf A) (a b c : Int32) : Now S A 87 184 [.ref 0, .int a, .int b, .int c] [.ref 67, .int a, .int b, .int c, hole, hole, hole, hole, hole, hole] := sorry
end CALLS
