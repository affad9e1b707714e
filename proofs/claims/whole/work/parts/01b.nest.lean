/-! links of nest mates, classes of arrays of references, by program -/
def nestL : List (String × Nat × MethodName × String) := [("RadioPair$Device", 11, ⟨"RadioPair$Outbox", "<init>", "()V"⟩, "RadioPair"), ("RadioPair$Outbox", 32, ⟨"RadioPair$Frame", "<init>", "()V"⟩, "RadioPair"), ("RadioPair$Device", 20, ⟨"RadioPair$Inbox", "<init>", "()V"⟩, "RadioPair"), ("RadioPair$Device", 27, ⟨"RadioPair$Frame", "<init>", "()V"⟩, "RadioPair"), ("RadioPair", 43, ⟨"RadioPair$Frame", "<init>", "()V"⟩, "RadioPair")]
def overL : List String := ["RadioPair$Device", "RadioPair$Message"]
