/** Promises 3 (method) and 16 (size) of methods, and the term METHODS: their numbers and modes. */
public final class MethodsTest extends DeskCheck {
  public static void main(String[] args) {
    numbersFromZero();
    firstAndLastMode();
    noMode();
    tenAreFull();
    newOnesAreEmpty();
    theTenthIsAsTheOthers();
    finish();
  }

  private static void numbersFromZero() {
    PropagationDesk desk = new PropagationDesk();
    for (int m = 0; m < 10; m++) {
      due("size(1) before " + m, desk.size(1), m);
      due("method " + m, desk.method(m % 7), m);
    }
    due("size(1) of ten", desk.size(1), 10);
  }

  private static void firstAndLastMode() {
    for (int mode = REQUIRED; mode <= NEVER; mode++) {
      PropagationDesk desk = new PropagationDesk();
      due("method(" + mode + ")", desk.method(mode), 0);
      due("size(1)", desk.size(1), 1);
      // Only MANDATORY is refused from outside, so that its mode can be told from its neighbours'.
      due("invoke in mode " + mode, desk.invoke(0), mode == MANDATORY ? out(MISSING) : DONE);
    }
  }

  private static void noMode() {
    for (int n = 0; n < 10; n++) {
      for (int mode : new int[] {-1, 7, LEAST, MOST}) {
        PropagationDesk desk = withMethods(n);
        String name = "method(" + mode + ") of " + n;
        due(name, desk.method(mode), -1);
        due(name + ": size(1)", desk.size(1), n);
        due(name + ": there is no method " + n, desk.invoke(n), -1);
        due(name + ": the next method has the number " + n, desk.method(REQUIRED), n);
      }
    }
  }

  private static void tenAreFull() {
    for (int mode = -1; mode <= 7; mode++) {
      PropagationDesk desk = withMethods(10);
      due("an eleventh method in mode " + mode, desk.method(mode), -1);
      due("size(1) after an eleventh", desk.size(1), 10);
      due("invoke(10)", desk.invoke(10), -1);
      due("rule(10)", desk.rule(10, THROWABLE, true), false);
      due("step(10)", desk.step(10, ONLY, 0, 0), -1);
      for (int m = 0; m < 10; m++) {
        due("method " + m + " is as it was", desk.invoke(m), DONE);
        due("method " + m + " is REQUIRED as it was", desk.count(0), m + 1);
      }
    }
  }

  private static void newOnesAreEmpty() {
    PropagationDesk desk = new PropagationDesk();
    make(desk, REQUIRED, PUT, 0, 5, PUT, 1, 6);
    desk.rule(0, CHECKED, true);
    int fresh = desk.method(SUPPORTS);
    due("a new method has no rules", desk.rolls(fresh, CHECKED), false);
    due("a new method has no steps", desk.invoke(fresh), DONE);
    dueEvents("a new method has no steps", desk);
    due("its first step", desk.step(fresh, ONLY, 0, 0), 1);
    due("the former one's third step", desk.step(0, ONLY, 0, 0), 3);
  }

  private static void theTenthIsAsTheOthers() {
    PropagationDesk desk = withMethods(9);
    int tenth = make(desk, REQUIRED, CALL, 8, -1, PUT, 3, 4, RAISE, CHECKED, 0);
    due("the tenth", tenth, 9);
    due("its rule", desk.rule(tenth, CHECKED, true), true);
    due("it rolls back for CHECKED", desk.rolls(tenth, CHECKED), true);
    due("it is invoked", desk.invoke(tenth), out(CHECKED));
    dueEvents("it is invoked", desk, putEvent(3), ROLLBACK_EVENT);
    due("it called another", desk.calls(), 2);
  }
}
