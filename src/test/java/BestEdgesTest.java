/** Terms, section 3: BEST; promise 14: a test for each sentence that names an edge. */
public final class BestEdgesTest {
    public static void main(String[] args) {
        bestOfNone();
        bestHasAPath();
        bestIsNotHeld();
        leastPath();
        leastPeer();
        anotherPeer();
        anotherPath();
        oneAndWasNone();
        theOtherWayRound();
        whenAnEventIsDone();
        heldByAnEvent();
        whenATickHasPassed();
        whenATickHasPassedForEachPrefix();
        twoTicksOfOnePass();
        twoRoutesAtOneTick();
        neitherSetNorRestoreChangesIt();
        whatThereIsOfBest();
        Check.end();
    }

    private static void bestIs(FlapDamper damper, int peer, int path, int changed) {
        Check.due("best(2, 0)", damper.best(2, 0), peer);
        Check.due("best(2, 1)", damper.best(2, 1), path);
        Check.due("best(2, 2)", damper.best(2, 2), changed);
    }

    private static void bestOfNone() {
        Check.sentence("the PEER (what = 0; NONE), the PATH (1; NONE), how often it CHANGED (2)");
        FlapDamper damper = new FlapDamper();
        bestIs(damper, FlapDamper.NONE, FlapDamper.NONE, 0);
        damper.announce(0, 1, 0, 0);
        damper.announce(0, 3, 0, 0);
        bestIs(damper, FlapDamper.NONE, FlapDamper.NONE, 0);
        damper.announce(0, 2, 0, 0);
        bestIs(damper, 0, 0, 1);
    }

    private static void bestHasAPath() {
        Check.sentence("of its ROUTES that have a PATH");
        FlapDamper damper = new FlapDamper();
        damper.announce(3, 2, 9, 0);
        bestIs(damper, 3, 9, 1);
        damper.announce(0, 2, 0, 0);
        damper.withdraw(0, 2, 0);
        bestIs(damper, 3, 9, 3);
    }

    private static void bestIsNotHeld() {
        Check.sentence("and are not HELD");
        FlapDamper damper = new FlapDamper();
        Check.flap(damper, 0, 2, 3);
        bestIs(damper, FlapDamper.NONE, FlapDamper.NONE, 6);
        damper.announce(0, 2, 0, 0);
        bestIs(damper, FlapDamper.NONE, FlapDamper.NONE, 6);
        damper.announce(3, 2, 9, 0);
        bestIs(damper, 3, 9, 7);
        damper.pass(129);
        bestIs(damper, 3, 9, 7);
        damper.pass(1);
        bestIs(damper, 0, 0, 8);
    }

    private static void leastPath() {
        Check.sentence("that of the least PATH");
        for (int best = 0; best < 4; best++) {
            FlapDamper damper = new FlapDamper();
            for (int peer = 0; peer < 4; peer++) {
                damper.announce(peer, 2, peer == best ? 0 : 9 - peer, 0);
            }
            Check.due("peer", damper.best(2, 0), best);
            Check.due("path", damper.best(2, 1), 0);
        }
        FlapDamper next = new FlapDamper();
        next.announce(0, 2, 9, 0);
        next.announce(3, 2, 8, 0);
        bestIs(next, 3, 8, 2);
    }

    private static void leastPeer() {
        Check.sentence("of as little the least PEER");
        for (int path = 0; path <= 9; path += 9) {
            FlapDamper damper = new FlapDamper();
            for (int peer = 3; peer >= 0; peer--) {
                damper.announce(peer, 2, path, 0);
                bestIs(damper, peer, path, 4 - peer);
            }
            for (int peer = 0; peer < 3; peer++) {
                damper.withdraw(peer, 2, 0);
                bestIs(damper, peer + 1, path, 5 + peer);
            }
        }
    }

    private static void anotherPeer() {
        Check.sentence("It CHANGES, if .. BEST is another PEER");
        FlapDamper damper = new FlapDamper();
        damper.announce(1, 2, 4, 0);
        damper.announce(2, 2, 4, 0);
        bestIs(damper, 1, 4, 1);
        damper.announce(0, 2, 4, 0);
        bestIs(damper, 0, 4, 2);
    }

    private static void anotherPath() {
        Check.sentence("or another PATH");
        FlapDamper damper = new FlapDamper();
        damper.announce(1, 2, 4, 0);
        damper.announce(1, 2, 3, 0);
        bestIs(damper, 1, 3, 2);
        damper.announce(1, 2, 9, 0);
        bestIs(damper, 1, 9, 3);
        damper.announce(2, 2, 9, 0);
        damper.announce(2, 2, 9, 0);
        bestIs(damper, 1, 9, 3);
    }

    private static void oneAndWasNone() {
        Check.sentence("or there is one and was none");
        FlapDamper damper = new FlapDamper();
        damper.announce(0, 2, 0, 0);
        bestIs(damper, 0, 0, 1);
    }

    private static void theOtherWayRound() {
        Check.sentence("or the other way round");
        FlapDamper damper = new FlapDamper();
        damper.announce(0, 2, 0, 0);
        damper.withdraw(0, 2, 0);
        bestIs(damper, FlapDamper.NONE, FlapDamper.NONE, 2);
        damper.announce(0, 2, 0, 0);
        bestIs(damper, 0, 0, 3);
    }

    private static void whenAnEventIsDone() {
        Check.sentence("when an EVENT is done");
        FlapDamper damper = new FlapDamper();
        damper.announce(0, 2, 3, 0);
        damper.announce(1, 2, 5, 0);
        damper.announce(0, 2, 8, 7);
        // Another peer and another path: one change.
        bestIs(damper, 1, 5, 2);
        Check.due("an echo", damper.announce(0, 2, 1, 7), 1);
        bestIs(damper, 0, 1, 3);
        Check.due("refused", damper.announce(0, 2, 1, 0), FlapDamper.NO);
        Check.due("refused", damper.withdraw(2, 2, 0), FlapDamper.NO);
        damper.announce(3, 2, 9, 0);
        damper.withdraw(3, 2, 0);
        bestIs(damper, 0, 1, 3);
        FlapDamper full = Scene.sixRecordsHeldBut(-1);
        full.announce(3, 7, 5, 0);
        Check.due("lost", full.announce(3, 7, 6, 0), 2);
        Check.due("best path", full.best(7, 1), 6);
        Check.due("best changed", full.best(7, 2), 2);
    }

    private static void heldByAnEvent() {
        Check.sentence("when an EVENT is done: by which it is HELD");
        FlapDamper damper = new FlapDamper();
        Check.flap(damper, 0, 2, 2);
        damper.announce(0, 2, 5, 0);
        bestIs(damper, 0, 5, 5);
        Check.due("a lesser path, but held", damper.announce(0, 2, 0, 0), 4);
        bestIs(damper, FlapDamper.NONE, FlapDamper.NONE, 6);
        damper.announce(0, 2, 1, 0);
        damper.withdraw(0, 2, 0);
        bestIs(damper, FlapDamper.NONE, FlapDamper.NONE, 6);
    }

    private static void whenATickHasPassed() {
        Check.sentence("or a TICK has passed");
        FlapDamper damper = Scene.with("over=100");
        Check.flap(damper, 0, 2, 1);
        damper.announce(0, 2, 4, 0);
        bestIs(damper, FlapDamper.NONE, FlapDamper.NONE, 2);
        int tick = damper.when(0, 2);
        damper.pass(tick - 1);
        bestIs(damper, FlapDamper.NONE, FlapDamper.NONE, 2);
        damper.pass(1);
        bestIs(damper, 0, 4, 3);
        // The record goes later: the path stays the best.
        damper.pass(200);
        Check.due("records", damper.count(1), 0);
        bestIs(damper, 0, 4, 3);
    }

    private static void whenATickHasPassedForEachPrefix() {
        Check.sentence("BEST of a PREFIX .. CHANGES, if .. a TICK has passed: each PREFIX");
        for (int prefix = 0; prefix < 8; prefix++) {
            FlapDamper damper = Scene.with("over=100", "back=9999");
            Check.flap(damper, 3, prefix, 1);
            damper.announce(3, prefix, 6, 0);
            Check.due("held, prefix " + prefix, damper.best(prefix, 0), FlapDamper.NONE);
            damper.pass(10);
            Check.due("let go, prefix " + prefix, damper.best(prefix, 0), 3);
            for (int other = 0; other < 8; other++) {
                Check.due("changes of " + other, damper.best(other, 2), other == prefix ? 3 : 0);
            }
        }
    }

    private static void twoTicksOfOnePass() {
        Check.sentence("or a TICK has passed: each of one pass");
        FlapDamper damper = new FlapDamper();
        Check.flap(damper, 0, 2, 4);
        Check.flap(damper, 1, 2, 3);
        damper.announce(0, 2, 1, 0);
        damper.announce(1, 2, 2, 0);
        bestIs(damper, FlapDamper.NONE, FlapDamper.NONE, 12);
        Check.due("held at 200", damper.pass(200), 0);
        Check.due("let go last", Check.line(damper, 0), "R02@150");
        Check.due("let go first", Check.line(damper, 1), "R12@130");
        bestIs(damper, 0, 1, 14);
    }

    private static void twoRoutesAtOneTick() {
        Check.sentence("when .. a TICK has passed: two ROUTES at one");
        FlapDamper damper = new FlapDamper();
        Check.flap(damper, 1, 2, 3);
        Check.flap(damper, 0, 2, 3);
        damper.announce(1, 2, 2, 0);
        damper.announce(0, 2, 1, 0);
        damper.pass(200);
        Check.due("let go last", Check.line(damper, 0), "R02@130");
        Check.due("let go first", Check.line(damper, 1), "R12@130");
        bestIs(damper, 0, 1, 13);
    }

    private static void neitherSetNorRestoreChangesIt() {
        Check.sentence("It CHANGES, if, when an EVENT is done, or a TICK has passed");
        FlapDamper damper = new FlapDamper();
        damper.announce(0, 2, 3, 0);
        damper.image(0);
        damper.announce(0, 2, 4, 0);
        damper.announce(0, 2, 5, 0);
        bestIs(damper, 0, 5, 3);
        damper.restore(0);
        bestIs(damper, 0, 3, 1);
        Check.set(damper, "over=100");
        bestIs(damper, 0, 3, 1);
        damper.pass(10);
        bestIs(damper, 0, 3, 1);
    }

    private static void whatThereIsOfBest() {
        Check.sentence("UNKNOWN; OUTSIDE.");
        FlapDamper damper = new FlapDamper();
        for (int prefix = 0; prefix < 8; prefix++) {
            damper.announce(prefix % 4, prefix, 9 - prefix, 0);
            Check.due("peer of " + prefix, damper.best(prefix, 0), prefix % 4);
            Check.due("path of " + prefix, damper.best(prefix, 1), 9 - prefix);
            Check.due("changes of " + prefix, damper.best(prefix, 2), 1);
        }
        for (int what : Check.around(0, 2)) {
            Check.due("best(0, " + what + ")", damper.best(0, what), FlapDamper.OUTSIDE);
            Check.due("best(7, " + what + ")", damper.best(7, what), FlapDamper.OUTSIDE);
            Check.due("best(8, " + what + ")", damper.best(8, what), FlapDamper.UNKNOWN);
            Check.due("best(-1, " + what + ")", damper.best(-1, what), FlapDamper.UNKNOWN);
        }
    }
}
