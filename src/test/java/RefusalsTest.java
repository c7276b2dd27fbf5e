import java.util.ArrayList;
import java.util.List;

/**
 * 'A call that is refused (-1 or false) changes nothing.' Two objects are described alike, one of them
 * gets the refused call besides, and then both are asked, filled and invoked: their answers are the same.
 */
public final class RefusalsTest extends DeskCheck {
  private static final int MOST_CALLS = 512;

  /** What an object has after a list of calls. */
  private record State(String name, int classes, int methods, boolean full, List<DeskCall> calls) {
  }

  private record Refused(DeskCall call, long answer) {
  }

  public static void main(String[] args) {
    for (State state : List.of(fresh(), used(), full())) {
      hasWhatIsSaid(state);
      List<Refused> refused = new ArrayList<>();
      addDescribing(refused, state);
      addSteps(refused, state);
      addFull(refused, state);
      addLooks(refused, state);
      for (Refused each : refused) {
        changesNothing(state, each);
      }
    }
    finish();
  }

  private static State fresh() {
    return new State("new", 10, 0, false, List.of());
  }

  private static State used() {
    List<DeskCall> calls = new ArrayList<>(List.of(
        DeskCall.kind(CHECKED), DeskCall.kind(10),
        DeskCall.method(NESTED), DeskCall.step(0, ADD, 1, 5), DeskCall.step(0, RAISE, 11, 0),
        DeskCall.method(REQUIRES_NEW), DeskCall.step(1, HOOK, 3, 1), DeskCall.step(1, GET, 2, 0),
        DeskCall.method(SUPPORTS), DeskCall.step(2, PUT, 3, 9), DeskCall.step(2, ONLY, 0, 0),
        DeskCall.method(REQUIRED), DeskCall.step(3, PUT, 1, 6), DeskCall.step(3, CALL, 0, 10),
        DeskCall.step(3, CALL, 1, FAILED), DeskCall.step(3, HOOK, 8, 0), DeskCall.step(3, GET, 1, 0),
        DeskCall.rule(0, 10, true), DeskCall.rule(3, CHECKED, true), DeskCall.rule(3, LOCKED, false),
        DeskCall.set(0, 40), DeskCall.set(2, -7), DeskCall.invoke(2), DeskCall.invoke(3)));
    return new State("used", 12, 4, false, calls);
  }

  private static State full() {
    List<DeskCall> calls = new ArrayList<>();
    for (int c = 10; c < 16; c++) {
      calls.add(DeskCall.kind(c - 7));
    }
    for (int m = 0; m < 10; m++) {
      calls.add(DeskCall.method(m % 5));
      calls.add(DeskCall.rule(m, m + 1, m % 2 == 0));
      calls.add(DeskCall.rule(m, m + 6, m % 3 == 0));
      calls.add(DeskCall.rule(m, CHECKED, m % 4 == 0));
      calls.add(DeskCall.step(m, ADD, m % 4, m + 1));
      calls.add(DeskCall.step(m, HOOK, m, m == 7 ? 1 : 0));
      for (int i = 0; i < 4; i++) {
        calls.add(m > i ? DeskCall.step(m, CALL, m - 1 - i, i == 0 ? -1 : THROWABLE) : DeskCall.step(m, GET, i, 0));
      }
      calls.add(m % 4 == 3 ? DeskCall.step(m, ONLY, 0, 0) : DeskCall.step(m, PUT, 3 - m % 4, 50 + m));
      calls.add(m % 3 == 2 ? DeskCall.step(m, RAISE, m + 4, 0) : DeskCall.step(m, GET, m % 4, 0));
    }
    calls.add(DeskCall.set(3, 1000));
    calls.add(DeskCall.invoke(4));
    return new State("full", 16, 10, true, calls);
  }

  /** None of the describing calls was itself refused. */
  private static void hasWhatIsSaid(State state) {
    PropagationDesk desk = new PropagationDesk();
    for (DeskCall call : state.calls) {
      long answer = call.on().applyAsLong(desk);
      boolean truth = call.name().startsWith("rule") || call.name().startsWith("set");
      due(state.name + ": " + call.name() + " is taken", answer >= (truth ? 1 : 0), true);
    }
    due(state.name + ": size(0)", desk.size(0), state.classes);
    due(state.name + ": size(1)", desk.size(1), state.methods);
    due(state.name + ": it has events", desk.events() > 0, state.methods > 0);
  }

  private static void refuse(List<Refused> refused, DeskCall call, long answer) {
    refused.add(new Refused(call, answer));
  }

  private static int[] noneOf(int n) {
    return new int[] {LEAST, -1, n, n + 1, MOST};
  }

  private static void addDescribing(List<Refused> refused, State state) {
    for (int none : noneOf(state.classes)) {
      refuse(refused, DeskCall.kind(none), -1);
      for (int m = 0; m < state.methods; m++) {
        refuse(refused, DeskCall.rule(m, none, true), 0);
        refuse(refused, DeskCall.rule(m, none, false), 0);
      }
    }
    for (int none : noneOf(7)) {
      refuse(refused, DeskCall.method(none), -1);
    }
    for (int none : noneOf(state.methods)) {
      refuse(refused, DeskCall.rule(none, CHECKED, true), 0);
      refuse(refused, DeskCall.rule(none, UNCHECKED, false), 0);
      refuse(refused, DeskCall.invoke(none), -1);
      for (int op = GET; op <= HOOK; op++) {
        refuse(refused, DeskCall.step(none, op, 0, 0), -1);
      }
    }
    for (int none : noneOf(4)) {
      refuse(refused, DeskCall.set(none, 77), 0);
    }
  }

  private static void addSteps(List<Refused> refused, State state) {
    for (int m = 0; m < state.methods; m++) {
      for (int op : noneOf(7)) {
        refuse(refused, DeskCall.step(m, op, 0, 0), -1);
      }
      for (int a : noneOf(4)) {
        refuse(refused, DeskCall.step(m, GET, a, 0), -1);
        refuse(refused, DeskCall.step(m, PUT, a, 5), -1);
        refuse(refused, DeskCall.step(m, ADD, a, 5), -1);
      }
      for (int a : noneOf(m)) {
        refuse(refused, DeskCall.step(m, CALL, a, THROWABLE), -1);
      }
      for (int b : new int[] {LEAST, -2, state.classes, MOST}) {
        refuse(refused, DeskCall.step(m, CALL, 0, b), -1);
      }
      for (int a : noneOf(state.classes)) {
        refuse(refused, DeskCall.step(m, RAISE, a, 0), -1);
      }
      for (int a : noneOf(10)) {
        refuse(refused, DeskCall.step(m, HOOK, a, 1), -1);
      }
      for (int b : noneOf(2)) {
        refuse(refused, DeskCall.step(m, HOOK, 1, b), -1);
      }
    }
  }

  private static void addFull(List<Refused> refused, State state) {
    if (!state.full) {
      return;
    }
    for (int parent = 0; parent < 16; parent++) {
      refuse(refused, DeskCall.kind(parent), -1);
    }
    for (int mode = REQUIRED; mode <= NEVER; mode++) {
      refuse(refused, DeskCall.method(mode), -1);
    }
    for (int m = 0; m < 10; m++) {
      refuse(refused, DeskCall.rule(m, UNCHECKED, m % 2 == 1), 0);
      refuse(refused, DeskCall.rule(m, 15, m % 2 == 0), 0);
      for (int op = GET; op <= HOOK; op++) {
        refuse(refused, DeskCall.step(m, op, 0, 1), -1);
      }
    }
  }

  /** Calls that only tell: what is not there, or not, is told with -1, 0 or false, and changes nothing either. */
  private static void addLooks(List<Refused> refused, State state) {
    for (int none : noneOf(4)) {
      refuse(refused, DeskCall.value(none), 0);
      refuse(refused, DeskCall.count(none), -1);
    }
    for (int none : noneOf(2)) {
      refuse(refused, DeskCall.size(none), -1);
    }
    for (int none : noneOf(state.classes)) {
      refuse(refused, DeskCall.is(none, THROWABLE), 0);
      refuse(refused, DeskCall.is(ERROR, none), 0);
      refuse(refused, DeskCall.rolls(0, none), 0);
    }
    for (int none : noneOf(state.methods)) {
      refuse(refused, DeskCall.rolls(none, UNCHECKED), 0);
    }
    for (int none : noneOf(128)) {
      refuse(refused, DeskCall.event(none), -1);
      refuse(refused, DeskCall.amount(none), 0);
    }
  }

  private static void changesNothing(State state, Refused refused) {
    List<DeskCall> latest = latest();
    sameAnswers(state, refused, latest);
    sameAnswers(state, refused, tableOfClasses());
    sameAnswers(state, refused, tableOfRules());
    sameAnswers(state, refused, filling());
    for (int m = 0; m < state.methods; m++) {
      List<DeskCall> invoked = new ArrayList<>(List.of(DeskCall.invoke(m)));
      invoked.addAll(latest);
      sameAnswers(state, refused, invoked);
    }
  }

  /** Describes two objects, refuses a call on one of them, and compares what both answer then. */
  private static void sameAnswers(State state, Refused refused, List<DeskCall> asked) {
    PropagationDesk without = described(state);
    PropagationDesk with = described(state);
    String name = state.name + ": " + refused.call.name();
    due(name, refused.call.on().applyAsLong(with), refused.answer);
    for (DeskCall call : asked) {
      long got = call.on().applyAsLong(with);
      long want = call.on().applyAsLong(without);
      if (got != want) {
        due(name + ", then " + call.name(), got, want);
      }
    }
    due(name + ": the calls are within those that are promised",
        state.calls.size() + 1 + asked.size() <= MOST_CALLS, true);
  }

  private static PropagationDesk described(State state) {
    PropagationDesk desk = new PropagationDesk();
    for (DeskCall call : state.calls) {
      call.on().applyAsLong(desk);
    }
    return desk;
  }

  private static List<DeskCall> latest() {
    List<DeskCall> asked = new ArrayList<>(List.of(DeskCall.events(), DeskCall.calls()));
    for (int i = -1; i <= 4; i++) {
      asked.add(DeskCall.value(i));
      asked.add(DeskCall.count(i));
      asked.add(DeskCall.size(i));
    }
    for (int i = -1; i <= 129; i++) {
      asked.add(DeskCall.event(i));
      asked.add(DeskCall.amount(i));
    }
    return asked;
  }

  private static List<DeskCall> tableOfClasses() {
    List<DeskCall> asked = new ArrayList<>();
    for (int t = -1; t <= 16; t++) {
      for (int c = -1; c <= 16; c++) {
        asked.add(DeskCall.is(t, c));
      }
    }
    return asked;
  }

  private static List<DeskCall> tableOfRules() {
    List<DeskCall> asked = new ArrayList<>();
    for (int m = -1; m <= 10; m++) {
      for (int t = -1; t <= 16; t++) {
        asked.add(DeskCall.rolls(m, t));
      }
    }
    return asked;
  }

  /** Fills an object, which tells how much of everything it had. */
  private static List<DeskCall> filling() {
    List<DeskCall> asked = new ArrayList<>();
    for (int i = 0; i < 7; i++) {
      asked.add(DeskCall.kind(0));
    }
    for (int i = 0; i < 11; i++) {
      asked.add(DeskCall.method(SUPPORTS));
    }
    for (int m = 0; m < 10; m++) {
      for (int i = 0; i < 4; i++) {
        asked.add(DeskCall.rule(m, THROWABLE, true));
      }
      for (int i = 0; i < 9; i++) {
        asked.add(DeskCall.step(m, ADD, m % 4, 1));
      }
      asked.add(DeskCall.invoke(m));
      asked.add(DeskCall.events());
    }
    return asked;
  }
}
