/** Promises 3 (method), 4 (rule), 5 (step), 10 (rolls) and 16 (size) of methods. */
public final class DescribeTest extends DeskCheck {
  public static void main(String[] args) {
    methods();
    rules();
    rollsWithoutRules();
    rollsByTheNearestRule();
    rollsByTheFirstOfEquals();
    rollsForNothing();
    stepsAreCounted();
    keysOfSteps();
    callsOfSteps();
    raisesOfSteps();
    hooksOfSteps();
    finish();
  }

  private static void methods() {
    PropagationDesk desk = new PropagationDesk();
    due("method(-1)", desk.method(-1), -1);
    due("method(7)", desk.method(7), -1);
    due("method(least)", desk.method(Integer.MIN_VALUE), -1);
    due("size(1)", desk.size(1), 0);
    for (int m = 0; m < 10; m++) {
      due("method " + m, desk.method(m % 7), m);
      due("size(1)", desk.size(1), m + 1);
    }
    due("an eleventh method", desk.method(0), -1);
    due("size(1)", desk.size(1), 10);
  }

  private static void rules() {
    PropagationDesk desk = new PropagationDesk();
    int m = desk.method(REQUIRED);
    due("rule of no method", desk.rule(1, THROWABLE, true), false);
    due("rule of method -1", desk.rule(-1, THROWABLE, true), false);
    due("rule of class -1", desk.rule(m, -1, true), false);
    due("rule of class 10", desk.rule(m, 10, true), false);
    due("refused rules change nothing", desk.rolls(m, CHECKED), false);
    desk.kind(CHECKED);
    due("rule of class 10, made", desk.rule(m, 10, true), true);
    due("second rule", desk.rule(m, CHECKED, false), true);
    due("third rule", desk.rule(m, CHECKED, false), true);
    due("fourth rule", desk.rule(m, ERROR, false), false);
    due("the fourth rule is not there", desk.rolls(m, ERROR), true);
    due("another method has its own rules", desk.rule(desk.method(REQUIRED), ERROR, false), true);
  }

  private static void rollsWithoutRules() {
    PropagationDesk desk = new PropagationDesk();
    int m = desk.method(NEVER);
    int checked = desk.kind(CHECKED);
    int unchecked = desk.kind(UNCHECKED);
    int error = desk.kind(OVERRUN);
    int other = desk.kind(THROWABLE);
    due("THROWABLE", desk.rolls(m, THROWABLE), false);
    due("CHECKED", desk.rolls(m, CHECKED), false);
    for (int t : new int[] {ERROR, UNCHECKED, MISSING, PRESENT, SPOILED, LOCKED, FAILED, OVERRUN}) {
      due("class " + t, desk.rolls(m, t), true);
    }
    due("under CHECKED", desk.rolls(m, checked), false);
    due("under UNCHECKED", desk.rolls(m, unchecked), true);
    due("under OVERRUN", desk.rolls(m, error), true);
    due("under THROWABLE", desk.rolls(m, other), false);
  }

  private static void rollsByTheNearestRule() {
    PropagationDesk desk = new PropagationDesk();
    int m = desk.method(REQUIRED);
    int child = desk.kind(LOCKED);
    int grandchild = desk.kind(child);
    desk.rule(m, THROWABLE, true);
    desk.rule(m, LOCKED, true);
    desk.rule(m, UNCHECKED, false);
    due("the grandchild is nearest to LOCKED", desk.rolls(m, grandchild), true);
    due("FAILED is nearest to UNCHECKED", desk.rolls(m, FAILED), false);
    due("UNCHECKED itself", desk.rolls(m, UNCHECKED), false);
    due("CHECKED is nearest to THROWABLE", desk.rolls(m, CHECKED), true);
    due("THROWABLE itself", desk.rolls(m, THROWABLE), true);
    int narrow = desk.method(REQUIRED);
    desk.rule(narrow, grandchild, false);
    due("a rule does not hold for classes above it", desk.rolls(narrow, child), true);
    due("a rule holds for its class", desk.rolls(narrow, grandchild), false);
  }

  private static void rollsByTheFirstOfEquals() {
    PropagationDesk desk = new PropagationDesk();
    int m = desk.method(REQUIRED);
    desk.rule(m, CHECKED, true);
    desk.rule(m, CHECKED, false);
    due("the first of two rules for one class", desk.rolls(m, CHECKED), true);
    due("the first of two, below it", desk.rolls(m, LOCKED), true);
    int other = desk.method(REQUIRED);
    desk.rule(other, UNCHECKED, false);
    desk.rule(other, UNCHECKED, true);
    due("the first of two, the other way", desk.rolls(other, UNCHECKED), false);
  }

  private static void rollsForNothing() {
    PropagationDesk desk = new PropagationDesk();
    int m = desk.method(REQUIRED);
    due("rolls for class 10", desk.rolls(m, 10), false);
    due("rolls for class -1", desk.rolls(m, -1), false);
    due("rolls of method 1", desk.rolls(1, UNCHECKED), false);
    due("rolls of method -1", desk.rolls(-1, UNCHECKED), false);
    due("rolls of the least", desk.rolls(Integer.MIN_VALUE, Integer.MAX_VALUE), false);
  }

  private static void stepsAreCounted() {
    PropagationDesk desk = new PropagationDesk();
    int m = desk.method(REQUIRED);
    due("op -1", desk.step(m, -1, 0, 0), -1);
    due("op 7", desk.step(m, 7, 0, 0), -1);
    due("no method", desk.step(m + 1, ONLY, 0, 0), -1);
    due("method -1", desk.step(-1, ONLY, 0, 0), -1);
    for (int i = 1; i <= 8; i++) {
      due("step " + i, desk.step(m, ADD, 0, 1), i);
    }
    due("a ninth step", desk.step(m, ADD, 0, 1), -1);
    desk.invoke(m);
    due("eight steps are done", desk.value(0), 8);
  }

  private static void keysOfSteps() {
    PropagationDesk desk = new PropagationDesk();
    int m = desk.method(REQUIRED);
    for (int op : new int[] {GET, PUT, ADD}) {
      due("key -1 for op " + op, desk.step(m, op, -1, 0), -1);
      due("key 4 for op " + op, desk.step(m, op, 4, 0), -1);
      due("key least for op " + op, desk.step(m, op, Integer.MIN_VALUE, 0), -1);
    }
    due("GET looks not at b", desk.step(m, GET, 3, Integer.MIN_VALUE), 1);
    due("PUT of any b", desk.step(m, PUT, 3, Integer.MAX_VALUE), 2);
    due("ADD of any b", desk.step(m, ADD, 0, Integer.MIN_VALUE), 3);
    due("ONLY looks at neither", desk.step(m, ONLY, -9, 99), 4);
  }

  private static void callsOfSteps() {
    PropagationDesk desk = new PropagationDesk();
    desk.method(REQUIRED);
    int m = desk.method(REQUIRED);
    desk.method(REQUIRED);
    due("a call of itself", desk.step(m, CALL, m, -1), -1);
    due("a call of a later one", desk.step(m, CALL, m + 1, -1), -1);
    due("a call of -1", desk.step(m, CALL, -1, -1), -1);
    due("method 0 can call none", desk.step(0, CALL, 0, -1), -1);
    due("catching -2", desk.step(m, CALL, 0, -2), -1);
    due("catching 10", desk.step(m, CALL, 0, 10), -1);
    due("catching nothing", desk.step(m, CALL, 0, -1), 1);
    due("catching THROWABLE", desk.step(m, CALL, 0, THROWABLE), 2);
    desk.kind(0);
    due("catching 10, made", desk.step(m, CALL, 0, 10), 3);
  }

  private static void raisesOfSteps() {
    PropagationDesk desk = new PropagationDesk();
    int m = desk.method(REQUIRED);
    due("raising -1", desk.step(m, RAISE, -1, 0), -1);
    due("raising 10", desk.step(m, RAISE, 10, 0), -1);
    due("raising 9, whatever b", desk.step(m, RAISE, OVERRUN, -77), 1);
    desk.kind(0);
    due("raising 10, made", desk.step(m, RAISE, 10, 0), 2);
  }

  private static void hooksOfSteps() {
    PropagationDesk desk = new PropagationDesk();
    int m = desk.method(REQUIRED);
    due("hook -1", desk.step(m, HOOK, -1, 0), -1);
    due("hook 10", desk.step(m, HOOK, 10, 0), -1);
    due("b -1", desk.step(m, HOOK, 0, -1), -1);
    due("b 2", desk.step(m, HOOK, 0, 2), -1);
    due("hook 0", desk.step(m, HOOK, 0, 0), 1);
    due("hook 9, bad", desk.step(m, HOOK, 9, 1), 2);
  }
}
