/** Promises 7 (set) and 8 (value). */
public final class StoreTest extends DeskCheck {
  public static void main(String[] args) {
    PropagationDesk desk = new PropagationDesk();
    for (int k = 0; k < 4; k++) {
      due("set(" + k + ")", desk.set(k, 100 + k), true);
    }
    dueValues("after set", desk, 100, 101, 102, 103);
    due("set least", desk.set(3, Integer.MIN_VALUE), true);
    due("value least", desk.value(3), Integer.MIN_VALUE);
    due("set again", desk.set(3, 0), true);
    due("value again", desk.value(3), 0);
    for (int k : new int[] {-1, 4, Integer.MIN_VALUE, Integer.MAX_VALUE}) {
      due("set(" + k + ")", desk.set(k, 7), false);
      due("value(" + k + ")", desk.value(k), 0);
    }
    dueValues("after refusals", desk, 100, 101, 102, 0);
    methodsSeeWhatIsSet();
    finish();
  }

  private static void methodsSeeWhatIsSet() {
    PropagationDesk desk = new PropagationDesk();
    int m = make(desk, REQUIRED, GET, 2, 0, ADD, 2, 5);
    desk.set(2, 40);
    due("invoke", desk.invoke(m), DONE);
    due("amount of GET", desk.amount(0), 40);
    due("value", desk.value(2), 45);
    desk.set(2, -1);
    desk.invoke(m);
    due("value after a second set", desk.value(2), 4);
  }
}
