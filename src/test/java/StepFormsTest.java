/** Promise 5 (step), and what STEPS says of a and b for each op. */
public final class StepFormsTest extends DeskCheck {
  private static final int[] ANYTHING = {LEAST, -2, -1, 0, 1, 2, 9, 10, 16, MOST};

  public static void main(String[] args) {
    firstAndLastMethod();
    firstAndLastOp();
    keys();
    calledMethods();
    caughtClasses();
    raisedClasses();
    onlyLooksAtNeither();
    hooks();
    eightSteps();
    eachMethodHasItsOwnEight();
    finish();
  }

  /** A step that is taken, on a new object with three methods and so many classes. */
  private static void taken(int classes, int m, int op, int a, int b) {
    PropagationDesk desk = described(classes);
    due("step(" + m + ", " + op + ", " + a + ", " + b + ")", desk.step(m, op, a, b), 1);
    due("the step behind it", desk.step(m, ONLY, 0, 0), 2);
  }

  private static void refused(int classes, int m, int op, int a, int b) {
    PropagationDesk desk = described(classes);
    String name = "step(" + m + ", " + op + ", " + a + ", " + b + ") of " + classes + " classes";
    due(name, desk.step(m, op, a, b), -1);
    for (int other = 0; other < 3; other++) {
      due(name + ": nothing is done in " + other, desk.invoke(other), DONE);
      due(name + ": no event in " + other, desk.events(), 0);
      due(name + ": " + other + " has no step", desk.step(other, ONLY, 0, 0), 1);
    }
  }

  private static PropagationDesk described(int classes) {
    PropagationDesk desk = withClasses(classes);
    for (int m = 0; m < 3; m++) {
      desk.method(SUPPORTS);
    }
    return desk;
  }

  private static void firstAndLastMethod() {
    for (int m : new int[] {-1, 3, 4, LEAST, MOST}) {
      for (int op = GET; op <= HOOK; op++) {
        refused(10, m, op, 0, 0);
      }
    }
    taken(10, 0, GET, 0, 0);
    taken(10, 2, GET, 0, 0);
    due("step of a new object", new PropagationDesk().step(0, ONLY, 0, 0), -1);
  }

  private static void firstAndLastOp() {
    for (int op : new int[] {-1, 7, 8, LEAST, MOST}) {
      refused(10, 2, op, 0, 0);
    }
    for (int op = GET; op <= HOOK; op++) {
      taken(10, 2, op, 0, 0);
    }
  }

  private static void keys() {
    for (int op : new int[] {GET, PUT, ADD}) {
      for (int b : ANYTHING) {
        for (int k = 0; k < 4; k++) {
          taken(10, 0, op, k, b);
        }
        for (int k : new int[] {-1, 4, LEAST, MOST}) {
          refused(10, 0, op, k, b);
        }
      }
    }
  }

  private static void calledMethods() {
    taken(10, 1, CALL, 0, -1);
    taken(10, 2, CALL, 0, -1);
    taken(10, 2, CALL, 1, -1);
    for (int m = 0; m < 3; m++) {
      for (int a : new int[] {-1, m, m + 1, 2, 3, LEAST, MOST}) {
        refused(10, m, CALL, a, -1);
        refused(10, m, CALL, a, THROWABLE);
      }
    }
  }

  private static void caughtClasses() {
    for (int n = 10; n <= 16; n++) {
      for (int b : new int[] {-1, 0, 9, n - 1}) {
        taken(n, 2, CALL, 1, b);
      }
      for (int b : new int[] {-2, n, 16, LEAST, MOST}) {
        refused(n, 2, CALL, 1, b);
      }
    }
  }

  private static void raisedClasses() {
    for (int n = 10; n <= 16; n++) {
      for (int a : new int[] {0, 9, n - 1}) {
        taken(n, 0, RAISE, a, 0);
      }
      for (int a : new int[] {-2, -1, n, 16, LEAST, MOST}) {
        refused(n, 0, RAISE, a, 0);
      }
    }
    for (int b : ANYTHING) {
      taken(10, 0, RAISE, OVERRUN, b);
      refused(10, 0, RAISE, 10, b);
    }
  }

  private static void onlyLooksAtNeither() {
    for (int a : ANYTHING) {
      for (int b : ANYTHING) {
        taken(10, 0, ONLY, a, b);
      }
    }
  }

  private static void hooks() {
    for (int a : new int[] {0, 1, 8, 9}) {
      taken(10, 0, HOOK, a, 0);
      taken(10, 0, HOOK, a, 1);
      for (int b : new int[] {-1, 2, LEAST, MOST}) {
        refused(10, 0, HOOK, a, b);
      }
    }
    for (int a : new int[] {-1, 10, LEAST, MOST}) {
      refused(10, 0, HOOK, a, 0);
      refused(10, 0, HOOK, a, 1);
    }
  }

  private static void eightSteps() {
    for (int op = GET; op <= HOOK; op++) {
      PropagationDesk desk = new PropagationDesk();
      desk.method(SUPPORTS);
      int m = desk.method(SUPPORTS);
      for (int i = 1; i <= 8; i++) {
        due("step " + i, desk.step(m, ADD, 0, 1), i);
      }
      due("a ninth step, op " + op, desk.step(m, op, 0, 0), -1);
      due("a tenth step, op " + op, desk.step(m, op, 0, 0), -1);
      due("a step that is wrong besides", desk.step(m, op, -1, 2), -1);
      due("eight steps, op " + op, desk.invoke(m), DONE);
      due("eight steps are done, op " + op, desk.value(0), 8);
      dueEvents("eight steps, op " + op, desk, 2, 2, 2, 2, 2, 2, 2, 2);
      due("none of them is a call", desk.calls(), 1);
    }
  }

  private static void eachMethodHasItsOwnEight() {
    PropagationDesk desk = withMethods(10);
    for (int i = 1; i <= 8; i++) {
      for (int m = 0; m < 10; m++) {
        due("step " + i + " of method " + m, desk.step(m, ADD, m % 4, 1), i);
      }
    }
    for (int m = 0; m < 10; m++) {
      due("a ninth step of method " + m, desk.step(m, ADD, 0, 1), -1);
    }
  }
}
