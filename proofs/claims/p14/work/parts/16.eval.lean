def qs0 : qH := List.replicate 16 (.inr (.inr (.inr (.inr (.inr 0)))))
