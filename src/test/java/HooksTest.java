/** Promises 6 (invoke), 12 (event) and 15 (count): TO COMMIT, TO ROLL BACK, and the step HOOK. */
public final class HooksTest extends DeskCheck {
  public static void main(String[] args) {
    orderOfACommit();
    orderOfARollback();
    badHook();
    badHookIsNotAskedInARollback();
    failedReplacesAThrowable();
    throwableStaysAfterACommit();
    eightHooks();
    noTransaction();
    hooksGoToTheCurrentOne();
    hooksStayAfterAMark();
    finish();
  }

  private static void orderOfACommit() {
    PropagationDesk desk = new PropagationDesk();
    int m = make(desk, REQUIRED, HOOK, 9, 0, HOOK, 0, 0, PUT, 3, 7, HOOK, 9, 0);
    due("commit", desk.invoke(m), DONE);
    dueEvents("commit", desk, putEvent(3),
        hookEvent(9, 3), hookEvent(0, 3), hookEvent(9, 3),
        hookEvent(9, 4), hookEvent(0, 4), hookEvent(9, 4), COMMIT_EVENT,
        hookEvent(9, 5), hookEvent(0, 5), hookEvent(9, 5),
        hookEvent(9, 7), hookEvent(0, 7), hookEvent(9, 7));
    due("amount of a hook's event", desk.amount(1), 0);
    due("amount of the commit", desk.amount(7), 0);
    dueValues("commit", desk, 0, 0, 0, 7);
  }

  private static void orderOfARollback() {
    PropagationDesk desk = new PropagationDesk();
    int m = make(desk, REQUIRED, HOOK, 2, 0, HOOK, 1, 0, PUT, 3, 7, RAISE, ERROR, 0);
    due("rollback", desk.invoke(m), out(ERROR));
    dueEvents("rollback", desk, putEvent(3), hookEvent(2, 4), hookEvent(1, 4), ROLLBACK_EVENT,
        hookEvent(2, 6), hookEvent(1, 6));
    dueValues("rollback", desk, 0, 0, 0, 0);
  }

  private static void badHook() {
    PropagationDesk desk = new PropagationDesk();
    int m = make(desk, REQUIRED, PUT, 0, 7, HOOK, 1, 0, HOOK, 2, 1, HOOK, 3, 1);
    due("bad", desk.invoke(m), out(FAILED));
    dueEvents("bad", desk, putEvent(0), hookEvent(1, 3), hookEvent(2, 3),
        hookEvent(1, 4), hookEvent(2, 4), hookEvent(3, 4), ROLLBACK_EVENT,
        hookEvent(1, 6), hookEvent(2, 6), hookEvent(3, 6));
    dueValues("bad", desk, 0);
    dueCounts("bad", desk, 1, 0, 1, 0);
    desk.rule(m, FAILED, false);
    due("no rule stands against FAILED", desk.invoke(m), out(FAILED));
    dueCounts("no rule stands against FAILED", desk, 2, 0, 2, 0);
  }

  private static void badHookIsNotAskedInARollback() {
    PropagationDesk desk = new PropagationDesk();
    int m = make(desk, REQUIRED, HOOK, 2, 1, ONLY, 0, 0);
    due("bad, quietly back", desk.invoke(m), DONE);
    dueEvents("bad, quietly back", desk, hookEvent(2, 4), ROLLBACK_EVENT, hookEvent(2, 6));
    int spoiler = make(desk, SUPPORTS, ONLY, 0, 0);
    int spoiled = make(desk, REQUIRED, HOOK, 2, 1, CALL, spoiler, -1);
    due("bad, spoiled", desk.invoke(spoiled), out(SPOILED));
    dueEvents("bad, spoiled", desk, hookEvent(2, 4), ROLLBACK_EVENT, hookEvent(2, 6));
  }

  private static void failedReplacesAThrowable() {
    PropagationDesk desk = new PropagationDesk();
    int m = make(desk, REQUIRED, HOOK, 0, 1, RAISE, CHECKED, 0);
    int outer = make(desk, REQUIRED, CALL, m, FAILED);
    due("FAILED instead of CHECKED", desk.invoke(m), out(FAILED));
    due("a joined call does not commit", desk.invoke(outer), out(FAILED));
    dueEvents("a joined call does not commit", desk, hookEvent(0, 3), hookEvent(0, 4), ROLLBACK_EVENT, hookEvent(0, 6));
  }

  private static void throwableStaysAfterACommit() {
    PropagationDesk desk = new PropagationDesk();
    int m = make(desk, REQUIRED, PUT, 0, 2, HOOK, 0, 0, RAISE, CHECKED, 0);
    due("CHECKED", desk.invoke(m), out(CHECKED));
    dueEvents("CHECKED", desk, putEvent(0), hookEvent(0, 3), hookEvent(0, 4), COMMIT_EVENT, hookEvent(0, 5), hookEvent(0, 7));
    dueValues("CHECKED", desk, 2);
  }

  private static void eightHooks() {
    PropagationDesk desk = new PropagationDesk();
    int inner = make(desk, SUPPORTS, HOOK, 0, 0, HOOK, 1, 0, HOOK, 2, 0, HOOK, 3, 0, HOOK, 4, 0, HOOK, 5, 0, HOOK, 6, 0);
    int outer = make(desk, REQUIRED, CALL, inner, -1, HOOK, 7, 0, HOOK, 8, 1, ONLY, 0, 0);
    due("a ninth hook", desk.invoke(outer), DONE);
    dueEvents("a ninth hook", desk,
        hookEvent(0, 4), hookEvent(1, 4), hookEvent(2, 4), hookEvent(3, 4),
        hookEvent(4, 4), hookEvent(5, 4), hookEvent(6, 4), hookEvent(7, 4), ROLLBACK_EVENT,
        hookEvent(0, 6), hookEvent(1, 6), hookEvent(2, 6), hookEvent(3, 6),
        hookEvent(4, 6), hookEvent(5, 6), hookEvent(6, 6), hookEvent(7, 6));
    int bad = make(desk, REQUIRED, CALL, inner, -1, HOOK, 7, 0, HOOK, 8, 1);
    due("a ninth hook that is bad", desk.invoke(bad), DONE);
    due("five events for each of eight", desk.events(), 4 * 8 + 1);
  }

  private static void noTransaction() {
    PropagationDesk desk = new PropagationDesk();
    int plain = make(desk, NOT_SUPPORTED, HOOK, 1, 1);
    int outer = make(desk, REQUIRED, CALL, plain, -1);
    due("a hook on nothing", desk.invoke(plain), DONE);
    dueEvents("a hook on nothing", desk);
    due("a hook beside a suspended one", desk.invoke(outer), DONE);
    dueEvents("a hook beside a suspended one", desk, COMMIT_EVENT);
  }

  private static void hooksGoToTheCurrentOne() {
    PropagationDesk desk = new PropagationDesk();
    int inner = make(desk, REQUIRES_NEW, HOOK, 2, 1);
    int outer = make(desk, REQUIRED, HOOK, 1, 0, CALL, inner, FAILED, CALL, inner, FAILED);
    due("two transactions, two hooks", desk.invoke(outer), DONE);
    dueEvents("two transactions, two hooks", desk,
        hookEvent(2, 3), hookEvent(2, 4), ROLLBACK_EVENT, hookEvent(2, 6), caughtEvent(FAILED),
        hookEvent(2, 3), hookEvent(2, 4), ROLLBACK_EVENT, hookEvent(2, 6), caughtEvent(FAILED),
        hookEvent(1, 3), hookEvent(1, 4), COMMIT_EVENT, hookEvent(1, 5), hookEvent(1, 7));
  }

  private static void hooksStayAfterAMark() {
    PropagationDesk desk = new PropagationDesk();
    int inner = make(desk, NESTED, HOOK, 5, 0, ONLY, 0, 0);
    int outer = make(desk, REQUIRED, CALL, inner, -1);
    due("a hook given behind a mark", desk.invoke(outer), DONE);
    dueEvents("a hook given behind a mark", desk,
        hookEvent(5, 3), hookEvent(5, 4), COMMIT_EVENT, hookEvent(5, 5), hookEvent(5, 7));
  }
}
