/** What the tests share: names for the document's numbers, and the comparing of answers. */
abstract class DeskCheck {
  static final int THROWABLE = 0;
  static final int ERROR = 1;
  static final int CHECKED = 2;
  static final int UNCHECKED = 3;
  static final int MISSING = 4;
  static final int PRESENT = 5;
  static final int SPOILED = 6;
  static final int LOCKED = 7;
  static final int FAILED = 8;
  static final int OVERRUN = 9;

  static final int REQUIRED = 0;
  static final int REQUIRES_NEW = 1;
  static final int NESTED = 2;
  static final int SUPPORTS = 3;
  static final int NOT_SUPPORTED = 4;
  static final int MANDATORY = 5;
  static final int NEVER = 6;

  static final int GET = 0;
  static final int PUT = 1;
  static final int ADD = 2;
  static final int CALL = 3;
  static final int RAISE = 4;
  static final int ONLY = 5;
  static final int HOOK = 6;

  static final int BEGUN = 0;
  static final int COMMITTED = 1;
  static final int ROLLED_BACK = 2;
  static final int RESTORED = 3;

  static final int LEAST = Integer.MIN_VALUE;
  static final int MOST = Integer.MAX_VALUE;

  static final int DONE = 0;
  static final int COMMIT_EVENT = 9;
  static final int ROLLBACK_EVENT = 10;

  private static int wrong = 0;
  private static int compared = 0;

  static void due(String what, long got, long want) {
    compared++;
    if (got != want) {
      wrong++;
      System.out.println(what + " answered " + got + ", due is " + want);
    }
  }

  static void due(String what, boolean got, boolean want) {
    due(what, got ? 1 : 0, want ? 1 : 0);
  }

  /** What invoke answers when a throwable of class c comes out. */
  static int out(int c) {
    return c + 1;
  }

  static int gotEvent(int key) {
    return 16 * key + 1;
  }

  static int putEvent(int key) {
    return 16 * key + 2;
  }

  static int hookEvent(int hook, int kind) {
    return 16 * hook + kind;
  }

  static int caughtEvent(int c) {
    return 16 * c + 8;
  }

  /** A new object with so many classes, each further one under THROWABLE. */
  static PropagationDesk withClasses(int n) {
    PropagationDesk desk = new PropagationDesk();
    for (int c = 10; c < n; c++) {
      due("class " + c, desk.kind(THROWABLE), c);
    }
    return desk;
  }

  /** A new object with so many methods, all REQUIRED and without steps. */
  static PropagationDesk withMethods(int n) {
    PropagationDesk desk = new PropagationDesk();
    for (int m = 0; m < n; m++) {
      due("method " + m, desk.method(REQUIRED), m);
    }
    return desk;
  }

  /** A new method with steps, three numbers each: op, a, b. */
  static int make(PropagationDesk desk, int mode, int... steps) {
    int m = desk.method(mode);
    for (int i = 0; i < steps.length; i += 3) {
      due("step " + i / 3 + " of method " + m, desk.step(m, steps[i], steps[i + 1], steps[i + 2]), i / 3 + 1);
    }
    return m;
  }

  static void dueEvents(String what, PropagationDesk desk, int... codes) {
    due(what + ": events()", desk.events(), codes.length);
    for (int i = 0; i < codes.length; i++) {
      due(what + ": event(" + i + ")", desk.event(i), codes[i]);
    }
  }

  static void dueAmounts(String what, PropagationDesk desk, int... amounts) {
    for (int i = 0; i < amounts.length; i++) {
      due(what + ": amount(" + i + ")", desk.amount(i), amounts[i]);
    }
  }

  static void dueValues(String what, PropagationDesk desk, int... values) {
    for (int k = 0; k < values.length; k++) {
      due(what + ": value(" + k + ")", desk.value(k), values[k]);
    }
  }

  static void dueCounts(String what, PropagationDesk desk, int... counts) {
    for (int i = 0; i < counts.length; i++) {
      due(what + ": count(" + i + ")", desk.count(i), counts[i]);
    }
  }

  /** Ends the test, with exit code 1 if an answer was not as due. */
  static void finish() {
    if (compared == 0) {
      System.out.println("nothing was compared");
      System.exit(1);
    }
    System.out.println(compared + " answers, " + wrong + " not as due");
    if (wrong != 0) {
      System.exit(1);
    }
  }
}
