/** Promises 4 (rule) and 10 (rolls), and the term METHODS: for what a method rolls back. */
public final class RulesTest extends DeskCheck {
  private static final int[][] ORDERS = {{0, 1, 2}, {0, 2, 1}, {1, 0, 2}, {1, 2, 0}, {2, 0, 1}, {2, 1, 0}};

  public static void main(String[] args) {
    threeRules();
    firstAndLastMethod();
    firstAndLastClass();
    withoutRules();
    leastDistanceInAnyOrder();
    leastDistanceByOne();
    greatestDistance();
    firstOfTwo();
    firstOfThree();
    classOfNoneOfItsRules();
    rollsOfNothing();
    finish();
  }

  private static void threeRules() {
    for (int m = 0; m < 10; m++) {
      PropagationDesk desk = withMethods(10);
      due("first rule of " + m, desk.rule(m, FAILED, false), true);
      due("second rule of " + m, desk.rule(m, LOCKED, false), true);
      due("third rule of " + m, desk.rule(m, SPOILED, false), true);
      due("fourth rule of " + m, desk.rule(m, ERROR, false), false);
      due("fourth rule of " + m + ", the other way", desk.rule(m, CHECKED, true), false);
      due("fourth rule of " + m + ", as the first", desk.rule(m, FAILED, true), false);
      due("ERROR as without a rule", desk.rolls(m, ERROR), true);
      due("CHECKED as without a rule", desk.rolls(m, CHECKED), false);
      due("FAILED by the first", desk.rolls(m, FAILED), false);
      due("LOCKED by the second", desk.rolls(m, LOCKED), false);
      due("SPOILED by the third", desk.rolls(m, SPOILED), false);
      int other = m == 9 ? 0 : m + 1;
      due("another method has rules of its own", desk.rolls(other, FAILED), true);
      due("another method takes a rule", desk.rule(other, ERROR, false), true);
      due("by that rule", desk.rolls(other, ERROR), false);
    }
  }

  private static void firstAndLastMethod() {
    for (int n = 0; n <= 10; n++) {
      PropagationDesk desk = withMethods(n);
      for (int m : new int[] {-1, n, LEAST, MOST}) {
        due("rule of method " + m + " of " + n, desk.rule(m, THROWABLE, true), false);
      }
      for (int m = 0; m < n; m++) {
        due("refused rules are nowhere", desk.rolls(m, THROWABLE), false);
        due("rule of method " + m + " of " + n, desk.rule(m, THROWABLE, true), true);
        due("the rule is there", desk.rolls(m, THROWABLE), true);
      }
    }
  }

  private static void firstAndLastClass() {
    for (int n = 10; n <= 16; n++) {
      PropagationDesk desk = withClasses(n);
      int m = desk.method(REQUIRED);
      for (int c : new int[] {-1, n, 16, LEAST, MOST}) {
        due("rule for class " + c + " of " + n, desk.rule(m, c, true), false);
      }
      due("refused rules are nowhere", desk.rolls(m, CHECKED), false);
      due("rule for class 0 of " + n, desk.rule(m, 0, true), true);
      due("rule for the last of " + n, desk.rule(m, n - 1, false), true);
      due("refused rules take no place", desk.rule(m, CHECKED, false), true);
      due("by the rule for class 0", desk.rolls(m, 0), true);
      due("by the rule for the last", desk.rolls(m, n - 1), false);
      due("by the third rule", desk.rolls(m, CHECKED), false);
    }
  }

  private static void withoutRules() {
    for (int mode = REQUIRED; mode <= NEVER; mode++) {
      PropagationDesk desk = new PropagationDesk();
      int m = desk.method(mode);
      int checked = desk.kind(CHECKED);
      int unchecked = desk.kind(UNCHECKED);
      int error = desk.kind(OVERRUN);
      int other = desk.kind(THROWABLE);
      due("THROWABLE", desk.rolls(m, THROWABLE), false);
      due("CHECKED", desk.rolls(m, CHECKED), false);
      for (int t : new int[] {ERROR, UNCHECKED, MISSING, PRESENT, SPOILED, LOCKED, FAILED, OVERRUN}) {
        due("class " + t, desk.rolls(m, t), true);
      }
      due("under CHECKED", desk.rolls(m, checked), false);
      due("under UNCHECKED", desk.rolls(m, unchecked), true);
      due("under OVERRUN", desk.rolls(m, error), true);
      due("under THROWABLE", desk.rolls(m, other), false);
    }
  }

  private static void leastDistanceInAnyOrder() {
    int[] classes = {THROWABLE, UNCHECKED, LOCKED};
    for (int[] order : ORDERS) {
      for (int backs = 0; backs < 8; backs++) {
        PropagationDesk desk = new PropagationDesk();
        int under = desk.kind(desk.kind(LOCKED));
        int m = desk.method(REQUIRED);
        for (int i : order) {
          desk.rule(m, classes[i], (backs >> i & 1) == 1);
        }
        boolean top = (backs & 1) == 1;
        boolean middle = (backs & 2) == 2;
        boolean low = (backs & 4) == 4;
        due("two under LOCKED", desk.rolls(m, under), low);
        due("LOCKED", desk.rolls(m, LOCKED), low);
        due("FAILED is nearest to UNCHECKED", desk.rolls(m, FAILED), middle);
        due("UNCHECKED", desk.rolls(m, UNCHECKED), middle);
        due("CHECKED is nearest to THROWABLE", desk.rolls(m, CHECKED), top);
        due("OVERRUN is nearest to THROWABLE", desk.rolls(m, OVERRUN), top);
        due("THROWABLE", desk.rolls(m, THROWABLE), top);
      }
    }
  }

  private static void leastDistanceByOne() {
    for (boolean back : new boolean[] {false, true}) {
      PropagationDesk desk = new PropagationDesk();
      int parent = desk.kind(FAILED);
      int child = desk.kind(parent);
      int m = desk.method(REQUIRED);
      desk.rule(m, parent, !back);
      desk.rule(m, child, back);
      due("distance 0 before distance 1", desk.rolls(m, child), back);
      int other = desk.method(REQUIRED);
      desk.rule(other, FAILED, !back);
      desk.rule(other, parent, back);
      due("distance 1 before distance 2", desk.rolls(other, child), back);
    }
  }

  private static void greatestDistance() {
    PropagationDesk desk = new PropagationDesk();
    int last = MISSING;
    for (int c = 10; c <= 15; c++) {
      last = desk.kind(last);
    }
    int m = desk.method(REQUIRED);
    due("by no rule", desk.rolls(m, last), true);
    desk.rule(m, THROWABLE, false);
    due("by the rule at distance 9", desk.rolls(m, last), false);
    desk.rule(m, CHECKED, true);
    due("by the rule at distance 8", desk.rolls(m, last), true);
    desk.rule(m, UNCHECKED, false);
    due("by the rule at distance 7", desk.rolls(m, last), false);
  }

  private static void firstOfTwo() {
    for (boolean back : new boolean[] {false, true}) {
      for (int far = 0; far < 3; far++) {
        PropagationDesk desk = new PropagationDesk();
        int m = desk.method(REQUIRED);
        boolean given = false;
        for (int i = 0; i < 3; i++) {
          // One rule farther away stands before, between or behind the two for one class.
          desk.rule(m, i == far ? THROWABLE : UNCHECKED, i == far ? !back : given != back);
          given = given || i != far;
        }
        due("the first of two, at distance 0, " + far, desk.rolls(m, UNCHECKED), back);
        due("the first of two, at distance 1, " + far, desk.rolls(m, FAILED), back);
        due("the farther rule, " + far, desk.rolls(m, CHECKED), !back);
      }
    }
  }

  private static void firstOfThree() {
    for (int backs = 0; backs < 8; backs++) {
      PropagationDesk desk = new PropagationDesk();
      int m = desk.method(REQUIRED);
      for (int i = 0; i < 3; i++) {
        desk.rule(m, CHECKED, (backs >> i & 1) == 1);
      }
      due("the first of three, " + backs, desk.rolls(m, CHECKED), (backs & 1) == 1);
      due("the first of three, farther, " + backs, desk.rolls(m, SPOILED), (backs & 1) == 1);
    }
  }

  private static void classOfNoneOfItsRules() {
    PropagationDesk desk = new PropagationDesk();
    int under = desk.kind(LOCKED);
    int m = desk.method(REQUIRED);
    desk.rule(m, under, false);
    desk.rule(m, PRESENT, false);
    desk.rule(m, OVERRUN, false);
    due("a rule is not for the class above", desk.rolls(m, LOCKED), true);
    due("a rule is not for the class two above", desk.rolls(m, UNCHECKED), true);
    due("a rule is not for a class beside", desk.rolls(m, MISSING), true);
    due("a rule is not for an ERROR above", desk.rolls(m, ERROR), true);
    due("CHECKED", desk.rolls(m, CHECKED), false);
    due("THROWABLE", desk.rolls(m, THROWABLE), false);
    int other = desk.method(REQUIRED);
    desk.rule(other, under, true);
    desk.rule(other, ERROR, true);
    due("CHECKED has no rule, whatever is below", desk.rolls(other, CHECKED), false);
    due("THROWABLE has no rule, whatever is below", desk.rolls(other, THROWABLE), false);
  }

  private static void rollsOfNothing() {
    for (int n = 0; n <= 10; n++) {
      PropagationDesk desk = withMethods(n);
      for (int m : new int[] {-1, n, LEAST, MOST}) {
        due("rolls of method " + m + " of " + n, desk.rolls(m, UNCHECKED), false);
      }
      for (int m = 0; m < n; m++) {
        due("rolls of method " + m + " of " + n, desk.rolls(m, UNCHECKED), true);
      }
    }
    for (int n = 10; n <= 16; n++) {
      PropagationDesk desk = withClasses(n);
      int m = desk.method(REQUIRED);
      desk.rule(m, THROWABLE, true);
      for (int t : new int[] {-1, n, 16, LEAST, MOST}) {
        due("rolls for class " + t + " of " + n, desk.rolls(m, t), false);
      }
      due("rolls for class 0 of " + n, desk.rolls(m, 0), true);
      due("rolls for the last of " + n, desk.rolls(m, n - 1), true);
    }
  }
}
