def m_it (r : St) (n ns : Nat) : St := m_weigh (up r 0 0 0) n ns
def m_all (r : St) (n ns : Nat) : Int32 := (fs_sum (fs_mem (r 4) (r 3) 0) (m_wt (up r 0 0 0) n ns 7) n + fs_sum (fs_mem (r 4) (r 3) 1) (m_wt (up (m_weigh (up r 0 0 0) n ns) 0 0 0) n ns 7) n + fs_sum (fs_mem (r 4) (r 3) 2) (m_wt (up (m_weigh (up (m_weigh (up r 0 0 0) n ns) 0 0 0) n ns) 0 0 0) n ns 7) n)
def m_wsm (r : St) (n ns : Nat) : Int64 := (m_ws64 (r 4) (r 10) (m_wt (up (m_weigh (up (m_weigh (up (m_weigh (up r 0 0 0) n ns) 0 0 0) n ns) 0 0 0) n ns) 0 0 0) n ns 7) n)
