import java.util.Arrays;

/** Promise 6 (invoke): what each mode does, (b) of TO CALL, and what is current in the end. */
public final class ModesTest extends DeskCheck {
  private static final int[] BEGINNING = {REQUIRED, REQUIRES_NEW, NESTED};

  public static void main(String[] args) {
    eachModeWhenNoneIsCurrent();
    eachModeWhenOneIsCurrent();
    eachModeWhenOneIsSuspended();
    currentAgainAfterEachEnd();
    noneAfterEachEnd();
    begunWithoutValues();
    begunWithoutKeys();
    begunWithoutHooks();
    begunNotSpoiled();
    fromOutside();
    joining();
    requiringNew();
    marking();
    goingPlainly();
    never();
    refusalsDoNothingElse();
    whatIsCurrentAfterwards();
    tenDeep();
    noMethod();
    finish();
  }

  /** A method MANDATORY at 0, and one of the mode at 1 that asks it whether one is current. */
  private static PropagationDesk asking(int mode) {
    PropagationDesk desk = new PropagationDesk();
    make(desk, MANDATORY);
    make(desk, mode, CALL, 0, MISSING, HOOK, 4, 0);
    return desk;
  }

  /** What an asking method answers from outside or where one is only suspended: none is current. */
  private static void dueWithoutOne(String name, PropagationDesk desk, int mode, int asker, int begunAround) {
    int refusal = caughtEvent(MISSING);
    int[] ends = begunAround == 0 ? new int[0] : new int[] {COMMIT_EVENT};
    if (mode == MANDATORY) {
      due(name, desk.invoke(asker), begunAround == 0 ? out(MISSING) : DONE);
      dueEvents(name, desk, joinedRows(begunAround == 0 ? new int[0] : new int[] {refusal}, ends));
      dueCounts(name, desk, begunAround, begunAround, 0, 0);
    } else if (mode <= NESTED) {
      due(name, desk.invoke(asker), DONE);
      dueEvents(name, desk, joinedRows(new int[] {
          hookEvent(4, 3), hookEvent(4, 4), COMMIT_EVENT, hookEvent(4, 5), hookEvent(4, 7)}, ends));
      dueCounts(name, desk, begunAround + 1, begunAround + 1, 0, 0);
    } else {
      due(name, desk.invoke(asker), DONE);
      dueEvents(name, desk, joinedRows(new int[] {refusal}, ends));
      dueCounts(name, desk, begunAround, begunAround, 0, 0);
    }
  }

  private static int[] joinedRows(int[] first, int[] second) {
    int[] all = Arrays.copyOf(first, first.length + second.length);
    System.arraycopy(second, 0, all, first.length, second.length);
    return all;
  }

  private static void eachModeWhenNoneIsCurrent() {
    for (int mode = REQUIRED; mode <= NEVER; mode++) {
      dueWithoutOne("mode " + mode + ", none current", asking(mode), mode, 1, 0);
    }
  }

  private static void eachModeWhenOneIsSuspended() {
    for (int mode = REQUIRED; mode <= NEVER; mode++) {
      PropagationDesk desk = asking(mode);
      int plain = make(desk, NOT_SUPPORTED, CALL, 1, MISSING);
      int outer = make(desk, REQUIRED, CALL, plain, -1);
      dueWithoutOne("mode " + mode + ", one suspended", desk, mode, outer, 1);
    }
  }

  private static void eachModeWhenOneIsCurrent() {
    int[] hooked = {hookEvent(4, 3), hookEvent(4, 4), COMMIT_EVENT, hookEvent(4, 5), hookEvent(4, 7)};
    int[][] events = {
        hooked,
        joinedRows(hooked, new int[] {COMMIT_EVENT}),
        hooked,
        hooked,
        {caughtEvent(MISSING), COMMIT_EVENT},
        hooked,
        {caughtEvent(PRESENT), COMMIT_EVENT}};
    int[] begun = {1, 2, 1, 1, 1, 1, 1};
    int[] calls = {3, 3, 3, 3, 3, 3, 2};
    for (int mode = REQUIRED; mode <= NEVER; mode++) {
      PropagationDesk desk = asking(mode);
      int outer = make(desk, REQUIRED, CALL, 1, PRESENT);
      String name = "mode " + mode + ", one current";
      due(name, desk.invoke(outer), DONE);
      dueEvents(name, desk, events[mode]);
      dueCounts(name, desk, begun[mode], begun[mode], 0, 0);
      due(name + ": calls()", desk.calls(), calls[mode]);
    }
  }

  /** The ways in which a call can end, as steps behind others. */
  private static final int[][] ENDINGS = {
      {}, {ONLY, 0, 0}, {RAISE, CHECKED, 0}, {RAISE, UNCHECKED, 0}, {HOOK, 1, 1}, {CALL, 0, -1}};

  private static void currentAgainAfterEachEnd() {
    for (int mode = REQUIRED; mode <= NEVER; mode++) {
      for (int[] ending : ENDINGS) {
        PropagationDesk desk = new PropagationDesk();
        make(desk, SUPPORTS, ONLY, 0, 0);
        int inner = make(desk, mode, ending);
        int mandatory = make(desk, MANDATORY, GET, 3, 0);
        int outer = make(desk, REQUIRED, PUT, 3, 5, CALL, inner, THROWABLE, CALL, mandatory, -1, ONLY, 0, 0);
        String name = "after mode " + mode + " and op " + (ending.length == 0 ? -1 : ending[0]);
        due(name + " the former one is current", desk.invoke(outer), DONE);
        // The last of the events before the outer one's end is the GET of its own value.
        int got = desk.events() - 1;
        while (got > 0 && desk.event(got) != gotEvent(3)) {
          got--;
        }
        due(name + " it has its own value", desk.amount(got), 5);
        dueValues(name, desk, 0, 0, 0, 0);
      }
    }
  }

  private static void noneAfterEachEnd() {
    for (int mode = REQUIRED; mode <= NEVER; mode++) {
      for (int[] ending : ENDINGS) {
        PropagationDesk desk = new PropagationDesk();
        make(desk, SUPPORTS, ONLY, 0, 0);
        int inner = make(desk, mode, ending);
        int never = make(desk, NEVER);
        int outer = make(desk, SUPPORTS, CALL, inner, THROWABLE, CALL, never, -1);
        String name = "none current after mode " + mode + " and op " + (ending.length == 0 ? -1 : ending[0]);
        due(name, desk.invoke(outer), DONE);
        due(name + ": from outside", desk.invoke(never), DONE);
      }
    }
  }

  private static void begunWithoutValues() {
    for (int mode : BEGINNING) {
      PropagationDesk desk = new PropagationDesk();
      int former = make(desk, mode, PUT, 0, 7, PUT, 3, 7, ONLY, 0, 0);
      int later = make(desk, mode, GET, 0, 0, GET, 3, 0);
      int outer = make(desk, SUPPORTS, CALL, former, -1, CALL, later, -1);
      due("values of one that ended, mode " + mode, desk.invoke(outer), DONE);
      dueAmounts("values of one that ended, mode " + mode, desk, 7, 7, 0, 0, 0, 0);
      dueValues("values of one that ended, mode " + mode, desk, 0, 0, 0, 0);
    }
    PropagationDesk desk = new PropagationDesk();
    int inner = make(desk, REQUIRES_NEW);
    int outer = make(desk, REQUIRED, PUT, 0, 7, CALL, inner, -1, RAISE, ERROR, 0);
    due("values of the suspended one", desk.invoke(outer), out(ERROR));
    dueCounts("values of the suspended one", desk, 2, 1, 1, 0);
    dueValues("values of the suspended one are not committed", desk, 0, 0, 0, 0);
  }

  private static void begunWithoutKeys() {
    for (int mode : BEGINNING) {
      PropagationDesk desk = new PropagationDesk();
      int plain = make(desk, NOT_SUPPORTED, PUT, 0, 1, PUT, 1, 1, GET, 2, 0);
      int former = make(desk, mode, GET, 0, 0, PUT, 1, 7, ADD, 2, 7);
      int later = make(desk, mode, CALL, plain, -1);
      int outer = make(desk, SUPPORTS, CALL, former, -1, CALL, later, -1);
      due("keys of one that ended, mode " + mode, desk.invoke(outer), DONE);
      due("keys of one of a former invocation, mode " + mode, desk.invoke(later), DONE);
      dueValues("keys of one that ended, mode " + mode, desk, 1, 1, 7, 0);
    }
  }

  private static void begunWithoutHooks() {
    for (int mode : BEGINNING) {
      PropagationDesk desk = new PropagationDesk();
      int former = make(desk, mode, HOOK, 1, 0, HOOK, 2, 1, ONLY, 0, 0);
      int later = make(desk, mode, HOOK, 3, 0);
      int outer = make(desk, SUPPORTS, CALL, former, -1, CALL, later, -1);
      due("hooks of one that ended, mode " + mode, desk.invoke(outer), DONE);
      dueEvents("hooks of one that ended, mode " + mode, desk,
          hookEvent(1, 4), hookEvent(2, 4), ROLLBACK_EVENT, hookEvent(1, 6), hookEvent(2, 6),
          hookEvent(3, 3), hookEvent(3, 4), COMMIT_EVENT, hookEvent(3, 5), hookEvent(3, 7));
    }
    PropagationDesk desk = new PropagationDesk();
    int inner = make(desk, REQUIRES_NEW);
    int outer = make(desk, REQUIRED, HOOK, 2, 1, CALL, inner, -1);
    due("hooks of the suspended one", desk.invoke(outer), out(FAILED));
    dueEvents("hooks of the suspended one", desk, COMMIT_EVENT,
        hookEvent(2, 3), hookEvent(2, 4), ROLLBACK_EVENT, hookEvent(2, 6));
  }

  private static void begunNotSpoiled() {
    for (int mode : BEGINNING) {
      PropagationDesk desk = new PropagationDesk();
      int spoiler = make(desk, SUPPORTS, ONLY, 0, 0);
      int former = make(desk, mode, CALL, spoiler, -1);
      int later = make(desk, mode, PUT, 0, 1);
      int outer = make(desk, SUPPORTS, CALL, former, SPOILED, CALL, later, -1);
      due("after a spoiled one, mode " + mode, desk.invoke(outer), DONE);
      dueEvents("after a spoiled one, mode " + mode, desk,
          ROLLBACK_EVENT, caughtEvent(SPOILED), putEvent(0), COMMIT_EVENT);
    }
    PropagationDesk desk = new PropagationDesk();
    int spoiler = make(desk, SUPPORTS, ONLY, 0, 0);
    int inner = make(desk, REQUIRES_NEW, PUT, 0, 1);
    int outer = make(desk, REQUIRED, CALL, spoiler, -1, CALL, inner, -1);
    due("beside a spoiled one", desk.invoke(outer), out(SPOILED));
    dueEvents("beside a spoiled one", desk, putEvent(0), COMMIT_EVENT, ROLLBACK_EVENT);
    int spoiling = make(desk, REQUIRES_NEW, CALL, spoiler, -1);
    int around = make(desk, REQUIRED, CALL, spoiling, SPOILED, PUT, 1, 1);
    due("a suspended one is not spoiled with the new one", desk.invoke(around), DONE);
    dueValues("a suspended one is not spoiled with the new one", desk, 1, 1);
  }

  private static void fromOutside() {
    for (int mode = 0; mode < 7; mode++) {
      PropagationDesk desk = new PropagationDesk();
      int m = make(desk, mode, PUT, 0, 5);
      String name = "mode " + mode + " from outside";
      if (mode == MANDATORY) {
        due(name, desk.invoke(m), out(MISSING));
        dueEvents(name, desk);
        dueValues(name, desk, 0);
        dueCounts(name, desk, 0, 0, 0, 0);
      } else if (mode <= NESTED) {
        due(name, desk.invoke(m), DONE);
        dueEvents(name, desk, putEvent(0), COMMIT_EVENT);
        dueValues(name, desk, 5);
        dueCounts(name, desk, 1, 1, 0, 0);
      } else {
        due(name, desk.invoke(m), DONE);
        dueEvents(name, desk, putEvent(0));
        dueValues(name, desk, 5);
        dueCounts(name, desk, 0, 0, 0, 0);
      }
      due(name + ": calls()", desk.calls(), 1);
    }
  }

  private static void joining() {
    for (int mode : new int[] {REQUIRED, SUPPORTS, MANDATORY}) {
      PropagationDesk desk = new PropagationDesk();
      int inner = make(desk, mode, GET, 0, 0, PUT, 0, 6);
      int outer = make(desk, REQUIRED, PUT, 0, 5, CALL, inner, -1, GET, 0, 0);
      String name = "mode " + mode + " joins";
      due(name, desk.invoke(outer), DONE);
      dueEvents(name, desk, putEvent(0), gotEvent(0), putEvent(0), gotEvent(0), COMMIT_EVENT);
      due(name + ": it sees the own value", desk.amount(1), 5);
      due(name + ": its own value is seen", desk.amount(3), 6);
      dueCounts(name, desk, 1, 1, 0, 0);
    }
  }

  private static void requiringNew() {
    PropagationDesk desk = new PropagationDesk();
    desk.set(0, 3);
    int inner = make(desk, REQUIRES_NEW, GET, 1, 0, PUT, 2, 6);
    int outer = make(desk, REQUIRED, PUT, 0, 5, HOOK, 4, 0, CALL, inner, -1, RAISE, UNCHECKED, 0);
    due("requires new", desk.invoke(outer), out(UNCHECKED));
    dueEvents("requires new", desk, putEvent(0), gotEvent(1), putEvent(2), COMMIT_EVENT,
        hookEvent(4, 4), ROLLBACK_EVENT, hookEvent(4, 6));
    dueValues("requires new", desk, 3, 0, 6, 0);
    dueCounts("requires new", desk, 2, 1, 1, 0);
  }

  private static void marking() {
    PropagationDesk desk = new PropagationDesk();
    int inner = make(desk, NESTED, PUT, 1, 6);
    int outer = make(desk, REQUIRED, PUT, 0, 5, CALL, inner, -1, GET, 1, 0);
    due("nested", desk.invoke(outer), DONE);
    dueEvents("nested", desk, putEvent(0), putEvent(1), gotEvent(1), COMMIT_EVENT);
    dueValues("nested", desk, 5, 6);
    dueCounts("nested", desk, 1, 1, 0, 0);
  }

  private static void goingPlainly() {
    PropagationDesk desk = new PropagationDesk();
    int inner = make(desk, NOT_SUPPORTED, PUT, 1, 6, RAISE, UNCHECKED, 0);
    int outer = make(desk, REQUIRED, PUT, 0, 5, CALL, inner, UNCHECKED);
    due("not supported", desk.invoke(outer), DONE);
    dueEvents("not supported", desk, putEvent(0), putEvent(1), caughtEvent(UNCHECKED), COMMIT_EVENT);
    dueValues("not supported", desk, 5, 6);
    int failing = make(desk, REQUIRED, CALL, inner, -1);
    due("what is put plainly stays", desk.invoke(failing), out(UNCHECKED));
    dueValues("what is put plainly stays", desk, 5, 6);
  }

  private static void never() {
    PropagationDesk desk = new PropagationDesk();
    int inner = make(desk, NEVER, PUT, 1, 6);
    int plain = make(desk, SUPPORTS, CALL, inner, -1);
    int outer = make(desk, REQUIRED, CALL, inner, -1);
    int hidden = make(desk, NOT_SUPPORTED, CALL, inner, -1);
    int around = make(desk, REQUIRED, CALL, hidden, -1);
    due("never, plainly", desk.invoke(plain), DONE);
    dueValues("never, plainly", desk, 0, 6);
    desk.set(1, 0);
    due("never, in a transaction", desk.invoke(outer), out(PRESENT));
    dueEvents("never, in a transaction", desk, ROLLBACK_EVENT);
    dueValues("never, in a transaction", desk, 0, 0);
    due("never, in a suspended transaction", desk.invoke(around), DONE);
    dueValues("never, in a suspended transaction", desk, 0, 6);
  }

  private static void refusalsDoNothingElse() {
    PropagationDesk desk = new PropagationDesk();
    int mandatory = make(desk, MANDATORY, ONLY, 0, 0);
    int never = make(desk, NEVER, ONLY, 0, 0);
    int outer = make(desk, REQUIRED, CALL, never, PRESENT, PUT, 0, 1);
    due("PRESENT does not spoil", desk.invoke(outer), DONE);
    dueEvents("PRESENT does not spoil", desk, caughtEvent(PRESENT), putEvent(0), COMMIT_EVENT);
    due("a refused call counts", desk.calls(), 2);
    int plain = make(desk, SUPPORTS, CALL, mandatory, UNCHECKED);
    due("MISSING is caught", desk.invoke(plain), DONE);
    dueEvents("MISSING is caught", desk, caughtEvent(MISSING));
    due("a refused call counts too", desk.calls(), 2);
  }

  private static void whatIsCurrentAfterwards() {
    PropagationDesk desk = new PropagationDesk();
    int checksNone = make(desk, NEVER);
    int checksOne = make(desk, MANDATORY);
    int begins = make(desk, REQUIRED, CALL, checksOne, -1);
    int plain = make(desk, NOT_SUPPORTED, CALL, begins, -1, CALL, checksNone, -1);
    int anew = make(desk, REQUIRES_NEW, CALL, checksOne, -1, CALL, plain, -1, CALL, checksOne, -1);
    int outer = make(desk, SUPPORTS, CALL, anew, -1, CALL, checksNone, -1);
    int around = make(desk, REQUIRED, CALL, plain, -1, CALL, anew, -1, CALL, checksOne, -1);
    due("from none to none", desk.invoke(outer), DONE);
    dueCounts("from none to none", desk, 2, 2, 0, 0);
    due("from one to that one", desk.invoke(around), DONE);
    dueCounts("from one to that one", desk, 6, 6, 0, 0);
    due("and nothing is left over", desk.invoke(checksNone), DONE);
    due("nor is one current", desk.invoke(checksOne), out(MISSING));
  }

  private static void tenDeep() {
    for (int mode : new int[] {REQUIRED, REQUIRES_NEW, NESTED, SUPPORTS}) {
      PropagationDesk desk = new PropagationDesk();
      make(desk, mode, ADD, 0, 1);
      for (int m = 1; m < 10; m++) {
        make(desk, mode, CALL, m - 1, -1);
      }
      int begun = mode == REQUIRES_NEW ? 10 : mode == SUPPORTS ? 0 : 1;
      due("ten deep in mode " + mode, desk.invoke(9), DONE);
      due("ten deep in mode " + mode + ": calls()", desk.calls(), 10);
      dueCounts("ten deep in mode " + mode, desk, begun, begun, 0, 0);
      dueValues("ten deep in mode " + mode, desk, 1);
    }
  }

  private static void noMethod() {
    PropagationDesk desk = new PropagationDesk();
    int m = make(desk, REQUIRED, PUT, 0, 1);
    due("invoke(-1)", desk.invoke(-1), -1);
    due("invoke(1)", desk.invoke(1), -1);
    due("invoke(least)", desk.invoke(LEAST), -1);
    due("invoke(most)", desk.invoke(MOST), -1);
    dueEvents("refused invocations are none", desk);
    due("refused invocations are none: calls()", desk.calls(), 0);
    dueCounts("refused invocations are none", desk, 0, 0, 0, 0);
    desk.invoke(m);
    due("invoke(1) later", desk.invoke(1), -1);
    dueEvents("a refused invocation is not the latest", desk, putEvent(0), COMMIT_EVENT);
    due("a refused invocation is not the latest: calls()", desk.calls(), 1);
    dueCounts("a refused invocation is not the latest", desk, 1, 1, 0, 0);
    firstAndLastMethod();
  }

  private static void firstAndLastMethod() {
    for (int n = 0; n <= 10; n++) {
      PropagationDesk desk = withMethods(n);
      for (int m = 0; m < n; m++) {
        due("invoke(" + m + ") of " + n, desk.invoke(m), DONE);
        due("invoke(" + m + ") of " + n + ": begun", desk.count(BEGUN), m + 1);
      }
      for (int m : new int[] {-1, n, 10, LEAST, MOST}) {
        due("invoke(" + m + ") of " + n, desk.invoke(m), -1);
        due("invoke(" + m + ") of " + n + ": begun", desk.count(BEGUN), n);
      }
    }
  }
}
