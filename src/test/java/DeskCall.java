import java.util.function.ToLongFunction;

/** One call of the face, with its name for reports; a boolean counts 1 or 0. */
record DeskCall(String name, ToLongFunction<PropagationDesk> on) {
  static DeskCall kind(int parent) {
    return new DeskCall("kind(" + parent + ")", desk -> desk.kind(parent));
  }

  static DeskCall method(int mode) {
    return new DeskCall("method(" + mode + ")", desk -> desk.method(mode));
  }

  static DeskCall rule(int m, int c, boolean back) {
    return new DeskCall("rule(" + m + ", " + c + ", " + back + ")", desk -> desk.rule(m, c, back) ? 1 : 0);
  }

  static DeskCall step(int m, int op, int a, int b) {
    return new DeskCall("step(" + m + ", " + op + ", " + a + ", " + b + ")", desk -> desk.step(m, op, a, b));
  }

  static DeskCall invoke(int m) {
    return new DeskCall("invoke(" + m + ")", desk -> desk.invoke(m));
  }

  static DeskCall set(int k, int v) {
    return new DeskCall("set(" + k + ", " + v + ")", desk -> desk.set(k, v) ? 1 : 0);
  }

  static DeskCall value(int k) {
    return new DeskCall("value(" + k + ")", desk -> desk.value(k));
  }

  static DeskCall is(int t, int c) {
    return new DeskCall("is(" + t + ", " + c + ")", desk -> desk.is(t, c) ? 1 : 0);
  }

  static DeskCall rolls(int m, int t) {
    return new DeskCall("rolls(" + m + ", " + t + ")", desk -> desk.rolls(m, t) ? 1 : 0);
  }

  static DeskCall events() {
    return new DeskCall("events()", PropagationDesk::events);
  }

  static DeskCall event(int i) {
    return new DeskCall("event(" + i + ")", desk -> desk.event(i));
  }

  static DeskCall amount(int i) {
    return new DeskCall("amount(" + i + ")", desk -> desk.amount(i));
  }

  static DeskCall calls() {
    return new DeskCall("calls()", PropagationDesk::calls);
  }

  static DeskCall count(int which) {
    return new DeskCall("count(" + which + ")", desk -> desk.count(which));
  }

  static DeskCall size(int which) {
    return new DeskCall("size(" + which + ")", desk -> desk.size(which));
  }
}
