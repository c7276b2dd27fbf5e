/** Promises 11 (events), 12 (event), 13 (amount) and 14 (calls): the latest invocation, and OVERRUN. */
public final class EventsTest extends DeskCheck {
  public static void main(String[] args) {
    noInvocation();
    onlyRefusedInvocations();
    onlyTheLatest();
    oneEvent();
    whatIsNotThere();
    codes();
    around128();
    commitAroundThe128th();
    rowsAreUsedAgain();
    the128th();
    overrun();
    overrunIsCaught();
    sixtyAreEnough();
    theSixtyFirstInEachMode();
    refusedOnesCountToSixty();
    overrunGoesBackOnItsWay();
    theOneFromOutsideCounts();
    refusedCallsKeepTheEvents();
    finish();
  }

  private static void dueNoEvents(String name, PropagationDesk desk) {
    due(name + ": events()", desk.events(), 0);
    due(name + ": calls()", desk.calls(), 0);
    for (int i : new int[] {LEAST, -1, 0, 1, 127, 128, MOST}) {
      due(name + ": event(" + i + ")", desk.event(i), -1);
      due(name + ": amount(" + i + ")", desk.amount(i), 0);
    }
  }

  private static void noInvocation() {
    PropagationDesk desk = new PropagationDesk();
    dueNoEvents("new", desk);
    make(desk, REQUIRED, PUT, 0, 5);
    desk.set(0, 3);
    dueNoEvents("not yet invoked", desk);
  }

  private static void onlyRefusedInvocations() {
    PropagationDesk desk = new PropagationDesk();
    desk.invoke(0);
    dueNoEvents("refused", desk);
    make(desk, REQUIRED, PUT, 0, 5);
    desk.invoke(1);
    desk.invoke(-1);
    dueNoEvents("refused twice more", desk);
  }

  /** The edges on either side of 0 .. events() - 1 when there is one event. */
  private static void oneEvent() {
    PropagationDesk desk = new PropagationDesk();
    desk.invoke(make(desk, SUPPORTS, PUT, 3, -9));
    due("events()", desk.events(), 1);
    due("event(-1)", desk.event(-1), -1);
    due("event(0)", desk.event(0), putEvent(3));
    due("event(1)", desk.event(1), -1);
    due("amount(-1)", desk.amount(-1), 0);
    due("amount(0)", desk.amount(0), -9);
    due("amount(1)", desk.amount(1), 0);
  }

  /** The least and the greatest n of each kind of event. */
  private static void codes() {
    PropagationDesk desk = withClasses(16);
    int first = make(desk, NOT_SUPPORTED, RAISE, THROWABLE, 0);
    int last = make(desk, NOT_SUPPORTED, RAISE, 15, 0);
    int m = make(desk, REQUIRED, GET, 0, 0, GET, 3, 0, PUT, 0, 2, ADD, 3, 4, HOOK, 0, 0, HOOK, 9, 0,
        CALL, first, THROWABLE, CALL, last, 15);
    due("codes", desk.invoke(m), DONE);
    dueEvents("codes", desk, 1, 49, 2, 50, 8, 248, 3, 147, 4, 148, 9, 5, 149, 7, 151);
    dueAmounts("codes", desk, 0, 0, 2, 4, 0, 0, 0, 0, 0, 0, 0, 0, 0, 0, 0);
    desk.step(last, ONLY, 0, 0);
    int back = make(desk, REQUIRED, HOOK, 0, 0, HOOK, 9, 0, ONLY, 0, 0);
    due("codes of a rollback", desk.invoke(back), DONE);
    dueEvents("codes of a rollback", desk, 4, 148, 10, 6, 150);
    dueAmounts("codes of a rollback", desk, 0, 0, 0, 0, 0);
  }

  /** Methods 0 .. 4: the last has 127 events, each an ADD whose amount is one more than its number. */
  private static PropagationDesk with127() {
    PropagationDesk desk = new PropagationDesk();
    for (int m = 0; m < 2; m++) {
      desk.method(SUPPORTS);
      for (int i = m; i < 8; i++) {
        desk.step(m, ADD, 0, 1);
      }
    }
    for (int m = 2; m < 4; m++) {
      desk.method(SUPPORTS);
      for (int i = m; i < 10; i++) {
        desk.step(m, CALL, 0, -1);
      }
    }
    // 8 * 8 and 7 * 8 of the two that call method 0, and 7 of method 1.
    make(desk, SUPPORTS, CALL, 2, -1, CALL, 3, -1, CALL, 1, -1);
    return desk;
  }

  private static void around128() {
    PropagationDesk desk = with127();
    for (int n = 127; n <= 130; n++) {
      desk.set(0, 0);
      String name = n + " events";
      due(name, desk.invoke(4), DONE);
      due(name + ": events()", desk.events(), n);
      for (int i : new int[] {0, 1, 63, 64, 126}) {
        due(name + ": event(" + i + ")", desk.event(i), putEvent(0));
        due(name + ": amount(" + i + ")", desk.amount(i), i + 1);
      }
      due(name + ": event(127)", desk.event(127), n >= 128 ? putEvent(0) : -1);
      due(name + ": amount(127)", desk.amount(127), n >= 128 ? 128 : 0);
      for (int i = 128; i <= 130; i++) {
        due(name + ": event(" + i + ")", desk.event(i), -1);
        due(name + ": amount(" + i + ")", desk.amount(i), 0);
      }
      due(name + ": what is not kept is done all the same", desk.value(0), n);
      desk.step(4, ADD, 0, 1);
    }
  }

  /** The events of an end are counted, and kept or not, as the others are. */
  private static void commitAroundThe128th() {
    PropagationDesk desk = with127();
    int begun = make(desk, REQUIRED, CALL, 4, -1);
    due("127 and a commit", desk.invoke(begun), DONE);
    due("127 and a commit: events()", desk.events(), 128);
    due("127 and a commit: event(127)", desk.event(127), COMMIT_EVENT);
    due("127 and a commit: amount(127)", desk.amount(127), 0);
    int hooked = make(desk, REQUIRED, HOOK, 6, 0, CALL, 4, -1, ONLY, 0, 0);
    due("127 and a rollback with a hook", desk.invoke(hooked), DONE);
    due("127 and a rollback: events()", desk.events(), 130);
    due("127 and a rollback: event(127)", desk.event(127), hookEvent(6, 4));
    due("127 and a rollback: event(128)", desk.event(128), -1);
    due("127 and a rollback: event(129)", desk.event(129), -1);
    dueValues("127 and a rollback", desk, 127);
    dueCounts("127 and more", desk, 2, 1, 1, 0);
  }

  private static void rowsAreUsedAgain() {
    PropagationDesk desk = with127();
    int hooked = make(desk, REQUIRED, HOOK, 1, 0, HOOK, 2, 0);
    desk.invoke(4);
    desk.invoke(hooked);
    due("fewer events than before", desk.events(), 9);
    for (int i = 0; i < 9; i++) {
      due("amount(" + i + ") is not the former one's", desk.amount(i), 0);
    }
    for (int i : new int[] {9, 10, 126, 127, 128}) {
      due("event(" + i + ") is not the former one's", desk.event(i), -1);
      due("amount(" + i + ") is not the former one's", desk.amount(i), 0);
    }
  }

  private static void onlyTheLatest() {
    PropagationDesk desk = new PropagationDesk();
    int many = make(desk, SUPPORTS, PUT, 0, 1, PUT, 1, 2, GET, 1, 0);
    int few = make(desk, SUPPORTS, PUT, 2, 6);
    int none = make(desk, SUPPORTS);
    desk.invoke(many);
    dueEvents("many", desk, putEvent(0), putEvent(1), gotEvent(1));
    desk.invoke(few);
    dueEvents("few", desk, putEvent(2));
    due("event of a former invocation", desk.event(1), -1);
    due("amount of a former invocation", desk.amount(1), 0);
    desk.invoke(none);
    dueEvents("none", desk);
    due("calls()", desk.calls(), 1);
  }

  private static void whatIsNotThere() {
    PropagationDesk desk = new PropagationDesk();
    desk.invoke(make(desk, SUPPORTS, PUT, 0, 5, PUT, 3, -5));
    for (int i : new int[] {-1, 2, 128, Integer.MIN_VALUE, Integer.MAX_VALUE}) {
      due("event(" + i + ")", desk.event(i), -1);
      due("amount(" + i + ")", desk.amount(i), 0);
    }
    due("amount(0)", desk.amount(0), 5);
    due("amount(1)", desk.amount(1), -5);
  }

  /** A method whose rows call a leaf eight times each, which adds 1 eight times. */
  private static int adder(PropagationDesk desk, int rows) {
    int leaf = make(desk, SUPPORTS, ADD, 0, 1, ADD, 0, 1, ADD, 0, 1, ADD, 0, 1, ADD, 0, 1, ADD, 0, 1, ADD, 0, 1, ADD, 0, 1);
    int row = desk.method(SUPPORTS);
    for (int i = 0; i < 8; i++) {
      desk.step(row, CALL, leaf, -1);
    }
    int all = desk.method(SUPPORTS);
    for (int i = 0; i < rows; i++) {
      desk.step(all, CALL, row, -1);
    }
    return all;
  }

  private static void the128th() {
    PropagationDesk exact = new PropagationDesk();
    due("16 leaves", exact.invoke(adder(exact, 2)), DONE);
    due("128 events", exact.events(), 128);
    due("event(127)", exact.event(127), putEvent(0));
    due("amount(127)", exact.amount(127), 128);
    due("event(128)", exact.event(128), -1);
    due("calls()", exact.calls(), 19);
    PropagationDesk more = new PropagationDesk();
    due("24 leaves", more.invoke(adder(more, 3)), DONE);
    due("192 events", more.events(), 192);
    due("event(127) of 192", more.event(127), putEvent(0));
    due("amount(127) of 192", more.amount(127), 128);
    due("event(128) of 192", more.event(128), -1);
    due("amount(128) of 192", more.amount(128), 0);
    due("event(191) of 192", more.event(191), -1);
    due("value(0)", more.value(0), 192);
  }

  private static void overrun() {
    PropagationDesk desk = new PropagationDesk();
    due("64 leaves", desk.invoke(adder(desk, 8)), out(OVERRUN));
    due("calls()", desk.calls(), 60);
    // One of the outside, seven rows, and what is left of sixty for leaves.
    due("events()", desk.events(), 8 * (60 - 1 - 7));
    due("value(0)", desk.value(0), 8 * (60 - 1 - 7));
    due("the next invocation counts anew", desk.invoke(0), DONE);
    due("calls() of it", desk.calls(), 1);
  }

  private static void overrunIsCaught() {
    PropagationDesk desk = new PropagationDesk();
    int leaf = make(desk, REQUIRED);
    int row = desk.method(REQUIRED);
    int all = desk.method(REQUIRED);
    for (int i = 0; i < 8; i++) {
      desk.step(row, CALL, leaf, OVERRUN);
      desk.step(all, CALL, row, OVERRUN);
    }
    due("caught", desk.invoke(all), DONE);
    due("calls()", desk.calls(), 60);
    // The seventh row has 4 leaves and 4 that overrun; the eighth row overruns itself.
    dueEvents("caught", desk, caughtEvent(OVERRUN), caughtEvent(OVERRUN), caughtEvent(OVERRUN), caughtEvent(OVERRUN),
        caughtEvent(OVERRUN), COMMIT_EVENT);
    dueCounts("an overrun call does not spoil", desk, 1, 1, 0, 0);
  }

  private static void sixtyAreEnough() {
    PropagationDesk desk = new PropagationDesk();
    int leaf = make(desk, REQUIRED, ADD, 0, 1);
    int row = desk.method(REQUIRED);
    for (int i = 0; i < 8; i++) {
      desk.step(row, CALL, leaf, -1);
    }
    int most = desk.method(REQUIRED);
    for (int i = 0; i < 6; i++) {
      desk.step(most, CALL, row, -1);
    }
    int pair = make(desk, REQUIRED, CALL, leaf, -1, CALL, leaf, -1);
    int outer = make(desk, REQUIRED, CALL, most, -1, CALL, pair, -1, CALL, leaf, -1);
    // 1 + (1 + 6 * 9) + (1 + 2) + 1 are sixty.
    due("sixty calls", desk.invoke(outer), DONE);
    due("calls()", desk.calls(), 60);
    due("leaves", desk.value(0), 51);
    due("one step more", desk.step(outer, CALL, leaf, -1), 4);
    due("sixty-one calls", desk.invoke(outer), out(OVERRUN));
    due("calls() of sixty-one", desk.calls(), 60);
    due("rolled back", desk.value(0), 51);
  }

  /** Methods 0 .. 4: a leaf in a mode, and others, the last of which makes 59 calls, itself counted. */
  private static PropagationDesk with59(int mode, int callers) {
    PropagationDesk desk = new PropagationDesk();
    make(desk, mode, ONLY, 0, 0, PUT, 0, 1, HOOK, 5, 1);
    make(desk, NOT_SUPPORTED);
    int row = desk.method(callers);
    int part = desk.method(callers);
    int all = desk.method(callers);
    for (int i = 0; i < 8; i++) {
      desk.step(row, CALL, 1, -1);
    }
    for (int i = 0; i < 3; i++) {
      desk.step(part, CALL, 1, -1);
    }
    // 1 of all, 6 * 9 of the rows and 4 of the part.
    for (int i = 0; i < 6; i++) {
      desk.step(all, CALL, row, -1);
    }
    desk.step(all, CALL, part, -1);
    due("59 calls", desk.invoke(all), DONE);
    due("59 calls: calls()", desk.calls(), 59);
    return desk;
  }

  /** 1 and 59, and the leaf is the 61st: OVERRUN comes out in any mode, and nothing else is done. */
  private static void theSixtyFirstInEachMode() {
    for (int callers : new int[] {SUPPORTS, REQUIRED}) {
      for (int mode = REQUIRED; mode <= NEVER; mode++) {
        PropagationDesk desk = with59(mode, callers);
        int begun = desk.count(BEGUN);
        int around = callers == REQUIRED ? 1 : 0;
        int outer = make(desk, callers, CALL, 4, -1, CALL, 0, OVERRUN, PUT, 1, 2);
        String name = "the 61st call, mode " + mode + " in mode " + callers;
        due(name, desk.invoke(outer), DONE);
        due(name + ": calls()", desk.calls(), 60);
        dueEvents(name, desk, around == 1 ? new int[] {caughtEvent(OVERRUN), putEvent(1), COMMIT_EVENT}
            : new int[] {caughtEvent(OVERRUN), putEvent(1)});
        dueValues(name, desk, 0, 2);
        dueCounts(name, desk, begun + around, begun + around, 0, 0);
      }
    }
  }

  private static void refusedOnesCountToSixty() {
    PropagationDesk desk = new PropagationDesk();
    int mandatory = make(desk, MANDATORY);
    int row = desk.method(SUPPORTS);
    int all = desk.method(SUPPORTS);
    for (int i = 0; i < 8; i++) {
      desk.step(row, CALL, mandatory, MISSING);
      desk.step(all, CALL, row, OVERRUN);
    }
    due("calls that are MISSING one", desk.invoke(all), DONE);
    due("calls that are MISSING one: calls()", desk.calls(), 60);
    // Six rows of eight; in the seventh row four count and the fifth overruns; the eighth row overruns.
    due("calls that are MISSING one: events()", desk.events(), 6 * 8 + 4 + 2);
    due("event(51)", desk.event(51), caughtEvent(MISSING));
    due("event(52)", desk.event(52), caughtEvent(OVERRUN));
    due("event(53)", desk.event(53), caughtEvent(OVERRUN));
    PropagationDesk other = new PropagationDesk();
    int never = make(other, NEVER);
    int many = other.method(REQUIRED);
    int outer = other.method(REQUIRED);
    for (int i = 0; i < 8; i++) {
      other.step(many, CALL, never, PRESENT);
      other.step(outer, CALL, many, -1);
    }
    due("calls where one is PRESENT", other.invoke(outer), out(OVERRUN));
    due("calls where one is PRESENT: calls()", other.calls(), 60);
    due("calls where one is PRESENT: events()", other.events(), 6 * 8 + 4 + 1);
  }

  /** 1 and 1 and 59: the last call in method 3 overruns, and the three joined calls around it go back. */
  private static void overrunGoesBackOnItsWay() {
    PropagationDesk desk = with59(SUPPORTS, SUPPORTS);
    int middle = make(desk, SUPPORTS, CALL, 4, -1);
    int outer = make(desk, REQUIRED, PUT, 2, 1, CALL, middle, OVERRUN);
    due("61 calls, the last one joined", desk.invoke(outer), out(SPOILED));
    dueEvents("61 calls, the last one joined", desk, putEvent(2), caughtEvent(OVERRUN), ROLLBACK_EVENT);
    due("61 calls, the last one joined: calls()", desk.calls(), 60);
    for (int m : new int[] {3, 4, middle}) {
      due("a rule of method " + m, desk.rule(m, OVERRUN, false), true);
    }
    due("61 calls, and none goes back", desk.invoke(outer), DONE);
    dueEvents("61 calls, and none goes back", desk, putEvent(2), caughtEvent(OVERRUN), COMMIT_EVENT);
    dueValues("61 calls, and none goes back", desk, 0, 0, 1);
  }

  private static void theOneFromOutsideCounts() {
    for (int mode = REQUIRED; mode <= NEVER; mode++) {
      PropagationDesk desk = new PropagationDesk();
      int m = make(desk, mode);
      desk.invoke(m);
      due("calls() of one in mode " + mode, desk.calls(), 1);
      desk.invoke(m);
      due("calls() of the latest alone, mode " + mode, desk.calls(), 1);
    }
  }

  private static void refusedCallsKeepTheEvents() {
    PropagationDesk desk = new PropagationDesk();
    desk.invoke(make(desk, REQUIRED, PUT, 1, 8));
    desk.invoke(5);
    desk.method(9);
    desk.kind(-4);
    desk.set(4, 4);
    desk.step(0, 9, 0, 0);
    desk.rule(3, 3, true);
    dueEvents("refusals", desk, putEvent(1), COMMIT_EVENT);
    due("amount(0)", desk.amount(0), 8);
    due("calls()", desk.calls(), 1);
    dueCounts("refusals", desk, 1, 1, 0, 0);
    desk.set(1, 3);
    desk.method(0);
    desk.step(0, ONLY, 0, 0);
    dueEvents("other calls", desk, putEvent(1), COMMIT_EVENT);
    due("amount(0) is what was put", desk.amount(0), 8);
  }
}
