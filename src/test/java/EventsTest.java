/** Promises 11 (events), 12 (event), 13 (amount) and 14 (calls): the latest invocation, and OVERRUN. */
public final class EventsTest extends DeskCheck {
  public static void main(String[] args) {
    onlyTheLatest();
    whatIsNotThere();
    the128th();
    overrun();
    overrunIsCaught();
    sixtyAreEnough();
    refusedCallsKeepTheEvents();
    finish();
  }

  private static void onlyTheLatest() {
    PropagationDesk desk = new PropagationDesk();
    int many = make(desk, SUPPORTS, PUT, 0, 1, PUT, 1, 2, GET, 1, 0);
    int few = make(desk, SUPPORTS, PUT, 2, 6);
    int none = make(desk, SUPPORTS);
    desk.invoke(many);
    dueEvents("many", desk, putEvent(0), putEvent(1), gotEvent(1));
    desk.invoke(few);
    dueEvents("few", desk, putEvent(2));
    due("event of a former invocation", desk.event(1), -1);
    due("amount of a former invocation", desk.amount(1), 0);
    desk.invoke(none);
    dueEvents("none", desk);
    due("calls()", desk.calls(), 1);
  }

  private static void whatIsNotThere() {
    PropagationDesk desk = new PropagationDesk();
    desk.invoke(make(desk, SUPPORTS, PUT, 0, 5, PUT, 3, -5));
    for (int i : new int[] {-1, 2, 128, Integer.MIN_VALUE, Integer.MAX_VALUE}) {
      due("event(" + i + ")", desk.event(i), -1);
      due("amount(" + i + ")", desk.amount(i), 0);
    }
    due("amount(0)", desk.amount(0), 5);
    due("amount(1)", desk.amount(1), -5);
  }

  /** A method whose rows call a leaf eight times each, which adds 1 eight times. */
  private static int adder(PropagationDesk desk, int rows) {
    int leaf = make(desk, SUPPORTS, ADD, 0, 1, ADD, 0, 1, ADD, 0, 1, ADD, 0, 1, ADD, 0, 1, ADD, 0, 1, ADD, 0, 1, ADD, 0, 1);
    int row = desk.method(SUPPORTS);
    for (int i = 0; i < 8; i++) {
      desk.step(row, CALL, leaf, -1);
    }
    int all = desk.method(SUPPORTS);
    for (int i = 0; i < rows; i++) {
      desk.step(all, CALL, row, -1);
    }
    return all;
  }

  private static void the128th() {
    PropagationDesk exact = new PropagationDesk();
    due("16 leaves", exact.invoke(adder(exact, 2)), DONE);
    due("128 events", exact.events(), 128);
    due("event(127)", exact.event(127), putEvent(0));
    due("amount(127)", exact.amount(127), 128);
    due("event(128)", exact.event(128), -1);
    due("calls()", exact.calls(), 19);
    PropagationDesk more = new PropagationDesk();
    due("24 leaves", more.invoke(adder(more, 3)), DONE);
    due("192 events", more.events(), 192);
    due("event(127) of 192", more.event(127), putEvent(0));
    due("amount(127) of 192", more.amount(127), 128);
    due("event(128) of 192", more.event(128), -1);
    due("amount(128) of 192", more.amount(128), 0);
    due("event(191) of 192", more.event(191), -1);
    due("value(0)", more.value(0), 192);
  }

  private static void overrun() {
    PropagationDesk desk = new PropagationDesk();
    due("64 leaves", desk.invoke(adder(desk, 8)), out(OVERRUN));
    due("calls()", desk.calls(), 60);
    // One of the outside, seven rows, and what is left of sixty for leaves.
    due("events()", desk.events(), 8 * (60 - 1 - 7));
    due("value(0)", desk.value(0), 8 * (60 - 1 - 7));
    due("the next invocation counts anew", desk.invoke(0), DONE);
    due("calls() of it", desk.calls(), 1);
  }

  private static void overrunIsCaught() {
    PropagationDesk desk = new PropagationDesk();
    int leaf = make(desk, REQUIRED);
    int row = desk.method(REQUIRED);
    int all = desk.method(REQUIRED);
    for (int i = 0; i < 8; i++) {
      desk.step(row, CALL, leaf, OVERRUN);
      desk.step(all, CALL, row, OVERRUN);
    }
    due("caught", desk.invoke(all), DONE);
    due("calls()", desk.calls(), 60);
    // The seventh row has 4 leaves and 4 that overrun; the eighth row overruns itself.
    dueEvents("caught", desk, caughtEvent(OVERRUN), caughtEvent(OVERRUN), caughtEvent(OVERRUN), caughtEvent(OVERRUN),
        caughtEvent(OVERRUN), COMMIT_EVENT);
    dueCounts("an overrun call does not spoil", desk, 1, 1, 0, 0);
  }

  private static void sixtyAreEnough() {
    PropagationDesk desk = new PropagationDesk();
    int leaf = make(desk, REQUIRED, ADD, 0, 1);
    int row = desk.method(REQUIRED);
    for (int i = 0; i < 8; i++) {
      desk.step(row, CALL, leaf, -1);
    }
    int most = desk.method(REQUIRED);
    for (int i = 0; i < 6; i++) {
      desk.step(most, CALL, row, -1);
    }
    int pair = make(desk, REQUIRED, CALL, leaf, -1, CALL, leaf, -1);
    int outer = make(desk, REQUIRED, CALL, most, -1, CALL, pair, -1, CALL, leaf, -1);
    // 1 + (1 + 6 * 9) + (1 + 2) + 1 are sixty.
    due("sixty calls", desk.invoke(outer), DONE);
    due("calls()", desk.calls(), 60);
    due("leaves", desk.value(0), 51);
    due("one step more", desk.step(outer, CALL, leaf, -1), 4);
    due("sixty-one calls", desk.invoke(outer), out(OVERRUN));
    due("calls() of sixty-one", desk.calls(), 60);
    due("rolled back", desk.value(0), 51);
  }

  private static void refusedCallsKeepTheEvents() {
    PropagationDesk desk = new PropagationDesk();
    desk.invoke(make(desk, REQUIRED, PUT, 1, 8));
    desk.invoke(5);
    desk.method(9);
    desk.kind(-4);
    desk.set(4, 4);
    desk.step(0, 9, 0, 0);
    desk.rule(3, 3, true);
    dueEvents("refusals", desk, putEvent(1), COMMIT_EVENT);
    due("amount(0)", desk.amount(0), 8);
    due("calls()", desk.calls(), 1);
    dueCounts("refusals", desk, 1, 1, 0, 0);
    desk.set(1, 3);
    desk.method(0);
    desk.step(0, ONLY, 0, 0);
    dueEvents("other calls", desk, putEvent(1), COMMIT_EVENT);
    due("amount(0) is what was put", desk.amount(0), 8);
  }
}
