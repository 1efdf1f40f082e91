theorem vB_as {r q : Rs} {f : Int → Rs} (h : vB r f = q) (g : Int → Rs) : vB r (fun a => vB (f a) g) = vB q g := by rw [← vB_assoc, h]
