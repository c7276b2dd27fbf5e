/** Promises 6 (invoke) and 13 (amount): what each of the STEPS does. */
public final class StepsTest extends DeskCheck {
  private static final int[] NUMBERS = {LEAST, LEAST + 1, -1, 0, 1, MOST - 1, MOST};

  public static void main(String[] args) {
    getPutAddInATransaction();
    getPutAddPlainly();
    eachKeyForItself();
    putOfAnyInt();
    addWraps();
    addWrapsOwnValues();
    getLooksNotAtB();
    catchingEachClass();
    catchingFurtherClasses();
    nothingToCatch();
    raisingEachClass();
    raiseLooksNotAtB();
    onlyLooksAtNeither();
    onlyIsNoEvent();
    callsOfTheFirstAndTheLast();
    finish();
  }

  private static void getPutAddInATransaction() {
    PropagationDesk desk = new PropagationDesk();
    desk.set(1, 30);
    int m = make(desk, REQUIRED, GET, 1, 99, PUT, 1, 4, GET, 1, 0, ADD, 1, -6, GET, 1, 0, ADD, 2, 8, RAISE, ERROR, 0);
    due("steps", desk.invoke(m), out(ERROR));
    dueEvents("steps", desk, gotEvent(1), putEvent(1), gotEvent(1), putEvent(1), gotEvent(1), putEvent(2), ROLLBACK_EVENT);
    dueAmounts("steps", desk, 30, 4, 4, -2, -2, 8, 0);
    dueValues("steps", desk, 0, 30, 0, 0);
  }

  private static void getPutAddPlainly() {
    PropagationDesk desk = new PropagationDesk();
    int m = make(desk, NEVER, PUT, 0, 4, ADD, 0, 3, GET, 0, 0, ADD, 3, 1, RAISE, ERROR, 0);
    due("plain steps", desk.invoke(m), out(ERROR));
    dueEvents("plain steps", desk, putEvent(0), putEvent(0), gotEvent(0), putEvent(3));
    dueAmounts("plain steps", desk, 4, 7, 7, 1);
    dueValues("plain steps", desk, 7, 0, 0, 1);
  }

  private static void eachKeyForItself() {
    for (int mode : new int[] {REQUIRED, SUPPORTS}) {
      for (int k = 0; k < 4; k++) {
        for (int op : new int[] {PUT, ADD}) {
          PropagationDesk desk = new PropagationDesk();
          for (int other = 0; other < 4; other++) {
            desk.set(other, 10 * other);
          }
          int m = make(desk, mode, op, k, 7, GET, k, 0, GET, 3 - k, 0);
          int want = op == PUT ? 7 : 10 * k + 7;
          String name = "op " + op + " of key " + k + " in mode " + mode;
          due(name, desk.invoke(m), DONE);
          due(name + ": event(0)", desk.event(0), putEvent(k));
          due(name + ": event(1)", desk.event(1), gotEvent(k));
          due(name + ": event(2)", desk.event(2), gotEvent(3 - k));
          dueAmounts(name, desk, want, want, 10 * (3 - k));
          for (int other = 0; other < 4; other++) {
            due(name + ": value(" + other + ")", desk.value(other), other == k ? want : 10 * other);
          }
        }
      }
    }
  }

  private static void putOfAnyInt() {
    for (int mode : new int[] {REQUIRED, SUPPORTS}) {
      for (int v : NUMBERS) {
        PropagationDesk desk = new PropagationDesk();
        desk.set(0, 77);
        int m = make(desk, mode, PUT, 0, v, GET, 0, 0);
        due("PUT of " + v, desk.invoke(m), DONE);
        dueAmounts("PUT of " + v, desk, v, v);
        dueValues("PUT of " + v, desk, v);
      }
    }
  }

  private static void addWraps() {
    for (int mode : new int[] {REQUIRED, SUPPORTS}) {
      for (int v : NUMBERS) {
        for (int b : NUMBERS) {
          PropagationDesk desk = new PropagationDesk();
          desk.set(2, v);
          int m = make(desk, mode, ADD, 2, b);
          String name = v + " plus " + b + " in mode " + mode;
          due(name, desk.invoke(m), DONE);
          due(name + ": event(0)", desk.event(0), putEvent(2));
          due(name + ": amount(0)", desk.amount(0), v + b);
          due(name + ": value(2)", desk.value(2), v + b);
        }
      }
    }
    PropagationDesk desk = new PropagationDesk();
    desk.set(0, MOST);
    desk.set(1, LEAST);
    desk.invoke(make(desk, REQUIRED, ADD, 0, 1, ADD, 1, -1));
    dueValues("one over the most and one under the least", desk, LEAST, MOST);
  }

  private static void addWrapsOwnValues() {
    PropagationDesk desk = new PropagationDesk();
    desk.set(0, 5);
    int m = make(desk, REQUIRED, PUT, 0, MOST, ADD, 0, 2, ADD, 0, LEAST, GET, 0, 0);
    due("own values wrap", desk.invoke(m), DONE);
    dueAmounts("own values wrap", desk, MOST, LEAST + 1, 1, 1);
    dueValues("own values wrap", desk, 1);
  }

  private static void getLooksNotAtB() {
    for (int b : new int[] {LEAST, -1, 1, 4, MOST}) {
      PropagationDesk desk = new PropagationDesk();
      desk.set(3, 12);
      int m = make(desk, REQUIRED, GET, 3, b);
      due("GET with b " + b, desk.invoke(m), DONE);
      dueEvents("GET with b " + b, desk, gotEvent(3), COMMIT_EVENT);
      dueAmounts("GET with b " + b, desk, 12, 0);
      dueValues("GET with b " + b, desk, 0, 0, 0, 12);
    }
  }

  /** Each of the first ten classes raised, and each of them (or none) caught. */
  private static void catchingEachClass() {
    for (int t = 0; t < 10; t++) {
      for (int b = -1; b < 10; b++) {
        PropagationDesk desk = new PropagationDesk();
        int inner = make(desk, NOT_SUPPORTED, RAISE, t, 0);
        int outer = make(desk, SUPPORTS, CALL, inner, b, PUT, 0, 1);
        boolean caught = b != -1 && desk.is(t, b);
        String name = "class " + t + " against " + b;
        due(name, desk.invoke(outer), caught ? DONE : out(t));
        dueEvents(name, desk, caught ? new int[] {caughtEvent(t), putEvent(0)} : new int[0]);
        due(name + ": amount(0)", desk.amount(0), 0);
        dueValues(name, desk, caught ? 1 : 0);
      }
    }
  }

  private static void catchingFurtherClasses() {
    PropagationDesk desk = new PropagationDesk();
    int last = FAILED;
    for (int c = 10; c <= 15; c++) {
      last = desk.kind(last);
    }
    int inner = make(desk, NOT_SUPPORTED, RAISE, 15, 0);
    int outer = make(desk, REQUIRED, CALL, inner, 15, CALL, inner, 10, CALL, inner, THROWABLE, PUT, 0, 1);
    due("class 15 is caught", desk.invoke(outer), DONE);
    dueEvents("the event has the throwable's class", desk, 248, 248, 248, putEvent(0), COMMIT_EVENT);
    dueAmounts("class 15 is caught", desk, 0, 0, 0, 1, 0);
    int other = make(desk, NOT_SUPPORTED, RAISE, 14, 0);
    int around = make(desk, REQUIRED, CALL, other, 15);
    due("class 14 is no class 15", desk.invoke(around), out(14));
  }

  private static void nothingToCatch() {
    PropagationDesk desk = new PropagationDesk();
    int quiet = make(desk, SUPPORTS);
    int calm = make(desk, SUPPORTS, CALL, quiet, THROWABLE);
    due("nothing to catch", desk.invoke(calm), DONE);
    dueEvents("nothing to catch", desk);
    due("nothing to catch: calls()", desk.calls(), 2);
  }

  private static void raisingEachClass() {
    PropagationDesk desk = withClasses(16);
    int plain = desk.method(SUPPORTS);
    due("nothing is raised", desk.invoke(plain), DONE);
    for (int c = 0; c < 16; c++) {
      PropagationDesk other = withClasses(16);
      int m = make(other, SUPPORTS, RAISE, c, 0, PUT, 0, 1);
      due("class " + c, other.invoke(m), c + 1);
      dueEvents("class " + c, other);
      dueValues("no step after class " + c, other, 0);
    }
  }

  private static void raiseLooksNotAtB() {
    for (int b : new int[] {LEAST, -1, 1, 16, MOST}) {
      PropagationDesk desk = new PropagationDesk();
      due("RAISE with b " + b, desk.invoke(make(desk, SUPPORTS, RAISE, LOCKED, b)), out(LOCKED));
    }
  }

  private static void onlyLooksAtNeither() {
    for (int a : new int[] {LEAST, -1, 0, 4, 16, MOST}) {
      PropagationDesk desk = new PropagationDesk();
      due("ONLY with a " + a, desk.invoke(make(desk, REQUIRED, PUT, 0, 3, ONLY, a, -a)), DONE);
      dueValues("ONLY with a " + a, desk, 0);
    }
  }

  private static void onlyIsNoEvent() {
    PropagationDesk desk = new PropagationDesk();
    int m = make(desk, REQUIRED, ONLY, 0, 0, PUT, 0, 1, ONLY, 0, 0);
    due("ONLY twice", desk.invoke(m), DONE);
    dueEvents("ONLY twice, and a step between", desk, putEvent(0), ROLLBACK_EVENT);
    dueCounts("ONLY twice", desk, 1, 0, 1, 0);
  }

  private static void callsOfTheFirstAndTheLast() {
    PropagationDesk desk = new PropagationDesk();
    for (int m = 0; m < 9; m++) {
      make(desk, SUPPORTS, ADD, 0, 1 << m);
    }
    int last = make(desk, SUPPORTS, CALL, 0, -1, CALL, 8, -1, CALL, 0, -1);
    due("calls of 0 and 8", desk.invoke(last), DONE);
    dueAmounts("calls of 0 and 8", desk, 1, 257, 258);
    due("calls of 0 and 8: calls()", desk.calls(), 4);
  }
}
