/** Promises 7 (set) and 8 (value), and the term THE STORE. */
public final class StoreTest extends DeskCheck {
  public static void main(String[] args) {
    atFirstZero();
    firstAndLastKey();
    noKey();
    anyInt();
    methodsSeeWhatIsSet();
    setIsNoEvent();
    finish();
  }

  private static void atFirstZero() {
    dueValues("at first", new PropagationDesk(), 0, 0, 0, 0);
  }

  private static void firstAndLastKey() {
    for (int k = 0; k < 4; k++) {
      PropagationDesk desk = new PropagationDesk();
      due("set(" + k + ")", desk.set(k, 100 + k), true);
      for (int other = 0; other < 4; other++) {
        due("value(" + other + ") after set(" + k + ")", desk.value(other), other == k ? 100 + k : 0);
      }
    }
  }

  private static void noKey() {
    for (int k : new int[] {-1, 4, 5, LEAST, MOST}) {
      PropagationDesk desk = new PropagationDesk();
      for (int good = 0; good < 4; good++) {
        desk.set(good, 100 + good);
      }
      due("set(" + k + ")", desk.set(k, 7), false);
      due("value(" + k + ")", desk.value(k), 0);
      dueValues("after set(" + k + ")", desk, 100, 101, 102, 103);
    }
  }

  private static void anyInt() {
    PropagationDesk desk = new PropagationDesk();
    for (int v : new int[] {LEAST, -1, 1, MOST, 0}) {
      due("set(3, " + v + ")", desk.set(3, v), true);
      due("value(3)", desk.value(3), v);
    }
  }

  private static void methodsSeeWhatIsSet() {
    PropagationDesk desk = new PropagationDesk();
    int m = make(desk, REQUIRED, GET, 2, 0, ADD, 2, 5);
    desk.set(2, 40);
    due("invoke", desk.invoke(m), DONE);
    due("amount of GET", desk.amount(0), 40);
    due("value", desk.value(2), 45);
    desk.set(2, -1);
    desk.invoke(m);
    due("value after a second set", desk.value(2), 4);
  }

  private static void setIsNoEvent() {
    PropagationDesk desk = new PropagationDesk();
    desk.invoke(make(desk, REQUIRED, PUT, 1, 8));
    desk.set(1, 3);
    dueEvents("set", desk, putEvent(1), COMMIT_EVENT);
    due("amount(0) is what was put", desk.amount(0), 8);
    dueCounts("set", desk, 1, 1, 0, 0);
  }
}
