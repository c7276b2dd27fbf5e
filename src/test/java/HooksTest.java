import java.util.Arrays;

/** Promises 6 (invoke), 12 (event) and 15 (count): TO COMMIT, TO ROLL BACK, and the step HOOK. */
public final class HooksTest extends DeskCheck {
  public static void main(String[] args) {
    orderOfACommit();
    orderOfARollback();
    badHook();
    badHookIsNotAskedInARollback();
    failedReplacesAThrowable();
    throwableStaysAfterACommit();
    eightHooks();
    noTransaction();
    hooksGoToTheCurrentOne();
    hooksStayAfterAMark();
    eachNumberOfHooksCommitted();
    eachNumberOfHooksRolledBack();
    badAtEachPlace();
    badAtTwoPlaces();
    eightTogether();
    eachHasItsOwnEight();
    failedIsAThrowable();
    finish();
  }

  /** Methods 0 and 1: the first joins and gives the hooks 0 .. n - 1 (bad those of a mask), the second begins. */
  private static PropagationDesk hooked(int n, int bad) {
    PropagationDesk desk = new PropagationDesk();
    int giver = desk.method(MANDATORY);
    for (int i = 0; i < n; i++) {
      due("hook " + i, desk.step(giver, HOOK, i, bad >> i & 1), i + 1);
    }
    make(desk, REQUIRED, PUT, 0, 6, CALL, giver, -1);
    return desk;
  }

  /** The codes of PUT 0, then rows of events of hooks: kind, and how many of the hooks have it; or a code below 0. */
  private static int[] codes(int... rows) {
    int[] all = new int[64];
    int n = 0;
    all[n++] = putEvent(0);
    for (int i = 0; i < rows.length; i += 2) {
      for (int hook = 0; hook < rows[i + 1]; hook++) {
        all[n++] = rows[i] < 0 ? -rows[i] : hookEvent(hook, rows[i]);
      }
    }
    return Arrays.copyOf(all, n);
  }

  private static void eachNumberOfHooksCommitted() {
    for (int n = 0; n <= 8; n++) {
      PropagationDesk desk = hooked(n, 0);
      String name = n + " hooks, committed";
      due(name, desk.invoke(1), DONE);
      dueEvents(name, desk, codes(3, n, 4, n, -COMMIT_EVENT, 1, 5, n, 7, n));
      for (int i = 1; i <= 4 * n + 1; i++) {
        due(name + ": amount(" + i + ")", desk.amount(i), 0);
      }
      dueValues(name, desk, 6);
      dueCounts(name, desk, 1, 1, 0, 0);
    }
  }

  private static void eachNumberOfHooksRolledBack() {
    for (int n = 0; n <= 8; n++) {
      PropagationDesk desk = hooked(n, 0);
      desk.step(1, RAISE, ERROR, 0);
      String name = n + " hooks, rolled back";
      due(name, desk.invoke(1), out(ERROR));
      dueEvents(name, desk, codes(4, n, -ROLLBACK_EVENT, 1, 6, n));
      for (int i = 1; i <= 2 * n + 1; i++) {
        due(name + ": amount(" + i + ")", desk.amount(i), 0);
      }
      dueValues(name, desk, 0);
      dueCounts(name, desk, 1, 0, 1, 0);
    }
  }

  private static void badAtEachPlace() {
    for (int n = 1; n <= 8; n++) {
      for (int at = 0; at < n; at++) {
        PropagationDesk desk = hooked(n, 1 << at);
        String name = n + " hooks, bad at " + at;
        due(name, desk.invoke(1), out(FAILED));
        dueEvents(name, desk, codes(3, at + 1, 4, n, -ROLLBACK_EVENT, 1, 6, n));
        dueValues(name, desk, 0);
        dueCounts(name, desk, 1, 0, 1, 0);
      }
    }
  }

  private static void badAtTwoPlaces() {
    for (int first = 0; first < 7; first++) {
      for (int second = first + 1; second < 8; second++) {
        PropagationDesk desk = hooked(8, 1 << first | 1 << second);
        String name = "bad at " + first + " and " + second;
        due(name, desk.invoke(1), out(FAILED));
        dueEvents(name, desk, codes(3, first + 1, 4, 8, -ROLLBACK_EVENT, 1, 6, 8));
      }
    }
  }

  /** Hooks of joined and marked calls go to one transaction: the eighth is taken, the ninth is not. */
  private static void eightTogether() {
    for (int mode : new int[] {REQUIRED, NESTED, SUPPORTS, MANDATORY}) {
      for (int n = 6; n <= 8; n++) {
        PropagationDesk desk = hooked(n, 0);
        int more = make(desk, mode, HOOK, n, 1);
        int around = make(desk, REQUIRED, PUT, 0, 6, CALL, 0, -1, CALL, more, -1);
        String name = "a bad hook behind " + n + " in mode " + mode;
        due(name, desk.invoke(around), n < 8 ? out(FAILED) : DONE);
        dueEvents(name, desk, n < 8 ? codes(3, n + 1, 4, n + 1, -ROLLBACK_EVENT, 1, 6, n + 1)
            : codes(3, n, 4, n, -COMMIT_EVENT, 1, 5, n, 7, n));
      }
    }
  }

  private static void eachHasItsOwnEight() {
    PropagationDesk desk = new PropagationDesk();
    int giver = desk.method(SUPPORTS);
    for (int i = 0; i < 8; i++) {
      desk.step(giver, HOOK, 7, 0);
    }
    int inner = make(desk, REQUIRES_NEW, HOOK, 9, 0, CALL, giver, -1);
    int outer = make(desk, REQUIRED, CALL, giver, -1, CALL, inner, -1, HOOK, 8, 1);
    due("eight of each", desk.invoke(outer), DONE);
    due("eight of each: events()", desk.events(), 2 * (4 * 8 + 1));
    due("the inner one's first hook", desk.event(0), hookEvent(9, 3));
    due("the inner one's eighth hook", desk.event(7), hookEvent(7, 3));
    due("the inner one has no ninth", desk.event(8), hookEvent(9, 4));
    due("the inner one is committed", desk.event(16), COMMIT_EVENT);
    due("the outer one's first hook", desk.event(33), hookEvent(7, 3));
    due("the outer one has no ninth", desk.event(41), hookEvent(7, 4));
    due("the outer one is committed", desk.event(49), COMMIT_EVENT);
  }

  private static void failedIsAThrowable() {
    PropagationDesk desk = new PropagationDesk();
    int inner = make(desk, REQUIRES_NEW, HOOK, 0, 1);
    int outer = make(desk, REQUIRED, PUT, 1, 2, CALL, inner, LOCKED, PUT, 1, 3);
    due("FAILED is no LOCKED", desk.invoke(outer), out(FAILED));
    dueValues("FAILED goes back in the outer one", desk, 0, 0);
    desk.rule(outer, FAILED, false);
    due("FAILED, and the outer one does not go back", desk.invoke(outer), out(FAILED));
    dueValues("FAILED, and the outer one does not go back", desk, 0, 2);
    dueCounts("FAILED", desk, 4, 1, 3, 0);
  }

  private static void orderOfACommit() {
    PropagationDesk desk = new PropagationDesk();
    int m = make(desk, REQUIRED, HOOK, 9, 0, HOOK, 0, 0, PUT, 3, 7, HOOK, 9, 0);
    due("commit", desk.invoke(m), DONE);
    dueEvents("commit", desk, putEvent(3),
        hookEvent(9, 3), hookEvent(0, 3), hookEvent(9, 3),
        hookEvent(9, 4), hookEvent(0, 4), hookEvent(9, 4), COMMIT_EVENT,
        hookEvent(9, 5), hookEvent(0, 5), hookEvent(9, 5),
        hookEvent(9, 7), hookEvent(0, 7), hookEvent(9, 7));
    due("amount of a hook's event", desk.amount(1), 0);
    due("amount of the commit", desk.amount(7), 0);
    dueValues("commit", desk, 0, 0, 0, 7);
  }

  private static void orderOfARollback() {
    PropagationDesk desk = new PropagationDesk();
    int m = make(desk, REQUIRED, HOOK, 2, 0, HOOK, 1, 0, PUT, 3, 7, RAISE, ERROR, 0);
    due("rollback", desk.invoke(m), out(ERROR));
    dueEvents("rollback", desk, putEvent(3), hookEvent(2, 4), hookEvent(1, 4), ROLLBACK_EVENT,
        hookEvent(2, 6), hookEvent(1, 6));
    dueValues("rollback", desk, 0, 0, 0, 0);
  }

  private static void badHook() {
    PropagationDesk desk = new PropagationDesk();
    int m = make(desk, REQUIRED, PUT, 0, 7, HOOK, 1, 0, HOOK, 2, 1, HOOK, 3, 1);
    due("bad", desk.invoke(m), out(FAILED));
    dueEvents("bad", desk, putEvent(0), hookEvent(1, 3), hookEvent(2, 3),
        hookEvent(1, 4), hookEvent(2, 4), hookEvent(3, 4), ROLLBACK_EVENT,
        hookEvent(1, 6), hookEvent(2, 6), hookEvent(3, 6));
    dueValues("bad", desk, 0);
    dueCounts("bad", desk, 1, 0, 1, 0);
    desk.rule(m, FAILED, false);
    due("no rule stands against FAILED", desk.invoke(m), out(FAILED));
    dueCounts("no rule stands against FAILED", desk, 2, 0, 2, 0);
  }

  private static void badHookIsNotAskedInARollback() {
    PropagationDesk desk = new PropagationDesk();
    int m = make(desk, REQUIRED, HOOK, 2, 1, ONLY, 0, 0);
    due("bad, quietly back", desk.invoke(m), DONE);
    dueEvents("bad, quietly back", desk, hookEvent(2, 4), ROLLBACK_EVENT, hookEvent(2, 6));
    int spoiler = make(desk, SUPPORTS, ONLY, 0, 0);
    int spoiled = make(desk, REQUIRED, HOOK, 2, 1, CALL, spoiler, -1);
    due("bad, spoiled", desk.invoke(spoiled), out(SPOILED));
    dueEvents("bad, spoiled", desk, hookEvent(2, 4), ROLLBACK_EVENT, hookEvent(2, 6));
  }

  private static void failedReplacesAThrowable() {
    PropagationDesk desk = new PropagationDesk();
    int m = make(desk, REQUIRED, HOOK, 0, 1, RAISE, CHECKED, 0);
    int outer = make(desk, REQUIRED, CALL, m, FAILED);
    due("FAILED instead of CHECKED", desk.invoke(m), out(FAILED));
    due("a joined call does not commit", desk.invoke(outer), out(FAILED));
    dueEvents("a joined call does not commit", desk, hookEvent(0, 3), hookEvent(0, 4), ROLLBACK_EVENT, hookEvent(0, 6));
  }

  private static void throwableStaysAfterACommit() {
    PropagationDesk desk = new PropagationDesk();
    int m = make(desk, REQUIRED, PUT, 0, 2, HOOK, 0, 0, RAISE, CHECKED, 0);
    due("CHECKED", desk.invoke(m), out(CHECKED));
    dueEvents("CHECKED", desk, putEvent(0), hookEvent(0, 3), hookEvent(0, 4), COMMIT_EVENT,
        hookEvent(0, 5), hookEvent(0, 7));
    dueValues("CHECKED", desk, 2);
  }

  private static void eightHooks() {
    PropagationDesk desk = new PropagationDesk();
    int inner = make(desk, SUPPORTS, HOOK, 0, 0, HOOK, 1, 0, HOOK, 2, 0, HOOK, 3, 0, HOOK, 4, 0, HOOK, 5, 0, HOOK, 6, 0);
    int outer = make(desk, REQUIRED, CALL, inner, -1, HOOK, 7, 0, HOOK, 8, 1, ONLY, 0, 0);
    due("a ninth hook", desk.invoke(outer), DONE);
    dueEvents("a ninth hook", desk,
        hookEvent(0, 4), hookEvent(1, 4), hookEvent(2, 4), hookEvent(3, 4),
        hookEvent(4, 4), hookEvent(5, 4), hookEvent(6, 4), hookEvent(7, 4), ROLLBACK_EVENT,
        hookEvent(0, 6), hookEvent(1, 6), hookEvent(2, 6), hookEvent(3, 6),
        hookEvent(4, 6), hookEvent(5, 6), hookEvent(6, 6), hookEvent(7, 6));
    int bad = make(desk, REQUIRED, CALL, inner, -1, HOOK, 7, 0, HOOK, 8, 1);
    due("a ninth hook that is bad", desk.invoke(bad), DONE);
    due("five events for each of eight", desk.events(), 4 * 8 + 1);
  }

  private static void noTransaction() {
    PropagationDesk desk = new PropagationDesk();
    int plain = make(desk, NOT_SUPPORTED, HOOK, 1, 1);
    int outer = make(desk, REQUIRED, CALL, plain, -1);
    due("a hook on nothing", desk.invoke(plain), DONE);
    dueEvents("a hook on nothing", desk);
    due("a hook beside a suspended one", desk.invoke(outer), DONE);
    dueEvents("a hook beside a suspended one", desk, COMMIT_EVENT);
  }

  private static void hooksGoToTheCurrentOne() {
    PropagationDesk desk = new PropagationDesk();
    int inner = make(desk, REQUIRES_NEW, HOOK, 2, 1);
    int outer = make(desk, REQUIRED, HOOK, 1, 0, CALL, inner, FAILED, CALL, inner, FAILED);
    due("two transactions, two hooks", desk.invoke(outer), DONE);
    dueEvents("two transactions, two hooks", desk,
        hookEvent(2, 3), hookEvent(2, 4), ROLLBACK_EVENT, hookEvent(2, 6), caughtEvent(FAILED),
        hookEvent(2, 3), hookEvent(2, 4), ROLLBACK_EVENT, hookEvent(2, 6), caughtEvent(FAILED),
        hookEvent(1, 3), hookEvent(1, 4), COMMIT_EVENT, hookEvent(1, 5), hookEvent(1, 7));
  }

  private static void hooksStayAfterAMark() {
    PropagationDesk desk = new PropagationDesk();
    int inner = make(desk, NESTED, HOOK, 5, 0, ONLY, 0, 0);
    int outer = make(desk, REQUIRED, CALL, inner, -1);
    due("a hook given behind a mark", desk.invoke(outer), DONE);
    dueEvents("a hook given behind a mark", desk,
        hookEvent(5, 3), hookEvent(5, 4), COMMIT_EVENT, hookEvent(5, 5), hookEvent(5, 7));
  }
}
