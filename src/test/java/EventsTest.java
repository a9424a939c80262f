/** Promises 7 to 9: announce, withdraw, pass. */
public final class EventsTest {
    public static void main(String[] args) {
        announceRefuses();
        withdrawRefuses();
        whatIsRefusedChangesNothing();
        pathsComeAndGo();
        weightsOfNothingAreNotCounted();
        figuresAddUpToTop();
        figuresAreLessenedFirst();
        topMayLowerAFigure();
        overItselfDoesNotHold();
        echoesAddNothing();
        fifthCauseDrivesOutTheFirst();
        causesOfOneRouteAreItsOwn();
        firstFreeRecordGivesWay();
        aNewRecordHasNothingOfTheOneThatWent();
        sixRecordsComeAndGo();
        eventsAreLostWhenAllAreHeld();
        dueIsTheFirstSlotBelowBack();
        dueIsTheEighthSlotAtMost();
        slotsAreMultiplesOfSlot();
        dueIsLaidOnceOnly();
        heldOnesAreLookedAtAgain();
        smallOnesGo();
        aLateLookByAnotherSlot();
        eachTickIsASlotOfOne();
        lettingGoMakesAnotherBest();
        passRefuses();
        passTellsHowManyAreHeld();
        Check.end();
    }

    private static void announceRefuses() {
        FlapDamper damper = new FlapDamper();
        int[] noPeers = {-1, 4, Integer.MIN_VALUE, Integer.MAX_VALUE};
        for (int peer : noPeers) {
            Check.due("7: peer " + peer, damper.announce(peer, 0, 1, 0), FlapDamper.UNKNOWN);
        }
        int[] noPrefixes = {-1, 8, Integer.MIN_VALUE, Integer.MAX_VALUE};
        for (int prefix : noPrefixes) {
            Check.due("7: prefix " + prefix, damper.announce(0, prefix, 1, 0), FlapDamper.UNKNOWN);
        }
        int[] noPaths = {-1, 10, FlapDamper.NONE, Integer.MAX_VALUE};
        for (int path : noPaths) {
            Check.due("7: path " + path, damper.announce(0, 0, path, 0), FlapDamper.OUTSIDE);
        }
        int[] noCauses = {-1, 100, Integer.MIN_VALUE, Integer.MAX_VALUE};
        for (int cause : noCauses) {
            Check.due("7: cause " + cause, damper.announce(0, 0, 1, cause), FlapDamper.OUTSIDE);
        }
        Check.due("7: UNKNOWN first", damper.announce(4, 0, 10, 100), FlapDamper.UNKNOWN);
        Check.due("7: path 0, cause 99", damper.announce(3, 7, 0, 99), 0);
        Check.due("7: path 9, cause 1", damper.announce(3, 7, 9, 1), 3);
        Check.due("7: the same path", damper.announce(3, 7, 9, 2), FlapDamper.NO);
        Check.due("7: OUTSIDE before NO", damper.announce(3, 7, 9, 100), FlapDamper.OUTSIDE);
    }

    private static void withdrawRefuses() {
        FlapDamper damper = new FlapDamper();
        int[] noPeers = {-1, 4, Integer.MIN_VALUE, Integer.MAX_VALUE};
        for (int peer : noPeers) {
            Check.due("8: peer " + peer, damper.withdraw(peer, 0, 0), FlapDamper.UNKNOWN);
        }
        int[] noPrefixes = {-1, 8, Integer.MIN_VALUE, Integer.MAX_VALUE};
        for (int prefix : noPrefixes) {
            Check.due("8: prefix " + prefix, damper.withdraw(0, prefix, 0), FlapDamper.UNKNOWN);
        }
        int[] noCauses = {-1, 100, Integer.MIN_VALUE, Integer.MAX_VALUE};
        for (int cause : noCauses) {
            Check.due("8: cause " + cause, damper.withdraw(0, 0, cause), FlapDamper.OUTSIDE);
        }
        Check.due("8: UNKNOWN first", damper.withdraw(0, 8, 100), FlapDamper.UNKNOWN);
        Check.due("8: no path", damper.withdraw(0, 0, 0), FlapDamper.NO);
        damper.announce(0, 0, 1, 0);
        Check.due("8: cause 99", damper.withdraw(0, 0, 99), 3);
        Check.due("8: no path any more", damper.withdraw(0, 0, 99), FlapDamper.NO);
    }

    private static void whatIsRefusedChangesNothing() {
        FlapDamper damper = new FlapDamper();
        damper.announce(0, 0, 3, 0);
        damper.announce(0, 0, 4, 5);
        damper.announce(0, 0, 4, 6);
        damper.announce(0, 0, 10, 6);
        damper.announce(0, 0, 5, 100);
        damper.withdraw(0, 0, 100);
        damper.withdraw(0, 1, 6);
        damper.pass(0);
        damper.pass(201);
        Check.due("7: path", damper.route(0, 0, 0), 4);
        Check.due("7: figure", damper.route(0, 0, 4), 500);
        Check.due("7: causes", damper.route(0, 0, 6), 1);
        Check.due("7: tick", damper.count(0), 0);
        Check.due("7: records", damper.count(1), 1);
        Check.due("7: events", damper.count(3), 2);
        Check.due("7: lines", damper.count(8), 2);
        Check.due("7: best", damper.best(0, 2), 2);
    }

    private static void pathsComeAndGo() {
        FlapDamper damper = new FlapDamper();
        Check.due("7: announce", damper.announce(1, 2, 7, 0), 0);
        Check.due("7: path", damper.route(1, 2, 0), 7);
        Check.due("7: another", damper.announce(1, 2, 0, 0), 3);
        Check.due("7: path", damper.route(1, 2, 0), 0);
        Check.due("8: withdraw", damper.withdraw(1, 2, 0), 3);
        Check.due("8: path", damper.route(1, 2, 0), FlapDamper.NONE);
        Check.due("7: the same as before", damper.announce(1, 2, 0, 0), 0);
        Check.due("7: path of another route", damper.route(2, 1, 0), FlapDamper.NONE);
        Check.due("7: events", damper.count(3), 4);
    }

    private static void weightsOfNothingAreNotCounted() {
        FlapDamper damper = new FlapDamper();
        Check.set(damper, "gone=0");
        Check.set(damper, "swap=0");
        damper.announce(0, 0, 1, 5);
        Check.due("7: swap 0", damper.announce(0, 0, 2, 5), 0);
        Check.due("8: gone 0", damper.withdraw(0, 0, 5), 0);
        Check.due("7: records", damper.count(1), 0);
        Check.set(damper, "gone=1");
        damper.announce(0, 0, 1, 5);
        Check.due("8: gone 1", damper.withdraw(0, 0, 5), 3);
        Check.set(damper, "gone=0");
        damper.announce(0, 0, 1, 5);
        Check.due("8: weighs 0, though its cause is known", damper.withdraw(0, 0, 5), 0);
        Check.due("8: echoes", damper.count(4), 0);
        Check.due("8: line", Check.line(damper, 0), "W00");
    }

    private static void figuresAddUpToTop() {
        FlapDamper damper = new FlapDamper();
        Check.set(damper, "top=2300");
        Check.flap(damper, 0, 0, 2);
        Check.due("8: figure", damper.route(0, 0, 4), 2000);
        damper.announce(0, 0, 1, 0);
        Check.due("8: held by top", damper.withdraw(0, 0, 0), 4);
        Check.due("8: figure at top", damper.route(0, 0, 4), 2300);
        Check.due("8: line", Check.line(damper, 0), "W00+1000=2300!");
    }

    private static void figuresAreLessenedFirst() {
        FlapDamper damper = new FlapDamper();
        Check.flap(damper, 0, 0, 1);
        damper.pass(9);
        damper.announce(0, 0, 1, 0);
        Check.due("7: told stays", damper.route(0, 0, 5), 0);
        Check.due("7: swap", damper.announce(0, 0, 2, 0), 3);
        Check.due("7: figure", damper.route(0, 0, 4), 917 + 500);
        Check.due("7: told", damper.route(0, 0, 5), 9);
    }

    private static void topMayLowerAFigure() {
        FlapDamper damper = new FlapDamper();
        Check.flap(damper, 0, 0, 2);
        Check.set(damper, "top=1500");
        damper.announce(0, 0, 1, 0);
        Check.due("8: withdraw", damper.withdraw(0, 0, 0), 3);
        Check.due("8: figure", damper.route(0, 0, 4), 1500);
    }

    private static void overItselfDoesNotHold() {
        FlapDamper damper = new FlapDamper();
        Check.flap(damper, 0, 0, 1);
        damper.announce(0, 0, 1, 0);
        Check.due("8: at over", damper.withdraw(0, 0, 0), 3);
        Check.due("8: figure", damper.route(0, 0, 4), 2000);
        Check.set(damper, "swap=1");
        damper.announce(0, 0, 1, 0);
        Check.due("7: one above over", damper.announce(0, 0, 2, 0), 4);
        Check.due("7: when it is held already", damper.announce(0, 0, 3, 0), 3);
        Check.due("7: line", Check.line(damper, 0), "A00:3+1=2002");
        Check.due("7: line", Check.line(damper, 1), "A00:2+1=2001!");
    }

    private static void echoesAddNothing() {
        FlapDamper damper = new FlapDamper();
        damper.announce(1, 1, 1, 7);
        Check.due("8: the first of a cause", damper.withdraw(1, 1, 7), 3);
        damper.pass(5);
        damper.announce(1, 1, 1, 7);
        Check.due("7: an echo", damper.announce(1, 1, 2, 7), 1);
        Check.due("7: its path counts", damper.route(1, 1, 0), 2);
        Check.due("8: an echo", damper.withdraw(1, 1, 7), 1);
        Check.due("8: its path goes", damper.route(1, 1, 0), FlapDamper.NONE);
        Check.due("8: figure", damper.route(1, 1, 4), 1000);
        Check.due("8: told", damper.route(1, 1, 5), 0);
        Check.due("8: causes", damper.route(1, 1, 6), 1);
        Check.due("8: echoes", damper.count(4), 2);
        Check.due("8: line", Check.line(damper, 0), "W11~");
        Check.due("7: line", Check.line(damper, 1), "A11:2~");
    }

    private static void fifthCauseDrivesOutTheFirst() {
        FlapDamper damper = new FlapDamper();
        Check.set(damper, "swap=1");
        damper.announce(0, 0, 0, 0);
        for (int cause = 1; cause <= 4; cause++) {
            Check.due("7: cause " + cause, damper.announce(0, 0, cause, cause), 3);
            Check.due("7: causes", damper.route(0, 0, 6), cause);
        }
        Check.due("7: no cause", damper.announce(0, 0, 0, 0), 3);
        Check.due("7: no cause again", damper.announce(0, 0, 1, 0), 3);
        Check.due("7: the first is there", damper.announce(0, 0, 2, 1), 1);
        Check.due("7: a fifth", damper.announce(0, 0, 3, 5), 3);
        Check.due("7: causes", damper.route(0, 0, 6), 4);
        Check.due("7: the second is there", damper.announce(0, 0, 4, 2), 1);
        Check.due("7: the fourth is there", damper.announce(0, 0, 5, 4), 1);
        Check.due("7: the fifth is there", damper.announce(0, 0, 6, 5), 1);
        Check.due("7: the first is not", damper.announce(0, 0, 7, 1), 3);
        for (int cause = 2; cause <= 5; cause++) {
            Check.due("7: nor then cause " + cause, damper.announce(0, 0, cause, cause), 3);
        }
    }

    private static void causesOfOneRouteAreItsOwn() {
        FlapDamper damper = new FlapDamper();
        damper.announce(0, 0, 1, 0);
        damper.announce(1, 0, 1, 0);
        Check.due("8: cause 9", damper.withdraw(0, 0, 9), 3);
        Check.due("8: cause 9 of another route", damper.withdraw(1, 0, 9), 3);
    }

    private static void firstFreeRecordGivesWay() {
        FlapDamper damper = new FlapDamper();
        Check.flap(damper, 3, 7, 3);
        for (int prefix = 0; prefix < 5; prefix++) {
            Check.flap(damper, 0, prefix, 1);
        }
        damper.announce(0, 0, 1, 0);
        damper.announce(0, 0, 2, 0);
        Check.due("7: records", damper.count(1), 6);
        damper.announce(0, 5, 1, 0);
        Check.due("8: a seventh", damper.withdraw(0, 5, 0), 3);
        Check.due("8: the held one stays", damper.record(0), 31);
        Check.due("8: the first free one is gone", damper.record(1), 1);
        Check.due("8: the new one is the last", damper.record(5), 5);
        Check.due("8: went", damper.count(6), 1);
        Check.due("8: figure of what went", damper.route(0, 0, 4), FlapDamper.NONE);
        Check.due("8: penalty of what went", damper.route(0, 0, 1), 0);
        Check.due("8: path of what went", damper.route(0, 0, 0), 2);
        damper.announce(0, 0, 3, 0);
        Check.due("7: it comes back anew", damper.route(0, 0, 4), 500);
        Check.due("7: as the last one", damper.record(5), 0);
        Check.due("7: for the first free one", damper.record(1), 2);
    }

    private static void aNewRecordHasNothingOfTheOneThatWent() {
        FlapDamper damper = new FlapDamper();
        for (int prefix = 0; prefix < 7; prefix++) {
            damper.announce(0, prefix, 1, 0);
            Check.due("8: withdraw", damper.withdraw(0, prefix, 8), 3);
        }
        Check.due("8: the first of all is gone", damper.record(0), 1);
        Check.due("8: the new one is the last", damper.record(5), 6);
        Check.due("8: figure", damper.route(0, 6, 4), 1000);
        Check.due("8: causes", damper.route(0, 6, 6), 1);
        damper.announce(0, 7, 1, 0);
        Check.due("7: by no cause", damper.announce(0, 7, 2, 0), 3);
        Check.due("7: figure", damper.route(0, 7, 4), 500);
        Check.due("7: causes", damper.route(0, 7, 6), 0);
        Check.due("8: a cause of the one that went", damper.withdraw(0, 7, 8), 3);
    }

    private static void sixRecordsComeAndGo() {
        FlapDamper damper = new FlapDamper();
        for (int prefix = 0; prefix < 6; prefix++) {
            Check.flap(damper, 0, prefix, prefix % 2 + 1);
        }
        Check.due("9: six records", damper.count(1), 6);
        damper.pass(100);
        Check.due("9: those of one flap are gone", damper.count(1), 3);
        for (int peer = 1; peer < 4; peer++) {
            Check.flap(damper, peer, 7, 1);
            damper.announce(peer, 7, peer, peer);
            damper.announce(peer, 7, 0, peer);
        }
        int[] records = {1, 3, 5, 15, 23, 31};
        int[] figures = {2000, 2000, 2000, 1500, 1500, 1500};
        for (int i = 0; i < 6; i++) {
            Check.due("9: record " + i, damper.record(i), records[i]);
            Check.due("9: figure", damper.route(records[i] / 8, records[i] % 8, 4), figures[i]);
        }
        damper.pass(200);
        Check.due("9: none is left", damper.count(1), 0);
        Check.due("9: went", damper.count(6), 9);
    }

    private static void eventsAreLostWhenAllAreHeld() {
        FlapDamper damper = new FlapDamper();
        for (int prefix = 0; prefix < 6; prefix++) {
            Check.flap(damper, 0, prefix, 3);
        }
        Check.due("8: held", damper.count(2), 6);
        damper.announce(1, 0, 3, 4);
        Check.due("7: lost", damper.announce(1, 0, 5, 4), 2);
        Check.due("7: its path counts", damper.route(1, 0, 0), 5);
        Check.due("8: lost", damper.withdraw(1, 0, 4), 2);
        Check.due("8: its path goes", damper.route(1, 0, 0), FlapDamper.NONE);
        Check.due("8: lost ones", damper.count(5), 2);
        Check.due("8: none went", damper.count(6), 0);
        Check.due("8: no record", damper.route(1, 0, 4), FlapDamper.NONE);
        Check.due("8: line", Check.line(damper, 0), "W10?");
        Check.due("7: line", Check.line(damper, 1), "A10:5?");
        damper.announce(0, 3, 1, 0);
        Check.due("8: one that has a record is counted", damper.withdraw(0, 3, 0), 3);
    }

    private static void dueIsTheFirstSlotBelowBack() {
        FlapDamper damper = new FlapDamper();
        Check.set(damper, "back=1500");
        damper.pass(13);
        Check.flap(damper, 0, 0, 3);
        // 3000 is 1500 after 60 ticks, and 1376 (1500 times 60097) from 68 on: 80 is 67 away, 90 is 77.
        Check.due("9: penalty at 80", damper.later(0, 0, 67), 1500);
        Check.due("9: penalty at 90", damper.later(0, 0, 77), 1261);
        Check.due("9: due", damper.route(0, 0, 3), 90);
        Check.set(damper, "over=1000");
        Check.set(damper, "back=9999");
        Check.flap(damper, 1, 0, 2);
        Check.due("9: due at the next slot", damper.route(1, 0, 3), 20);
        damper.pass(7);
        Check.flap(damper, 2, 0, 2);
        Check.due("9: a slot's own tick is not the next", damper.route(2, 0, 3), 30);
    }

    private static void dueIsTheEighthSlotAtMost() {
        FlapDamper damper = new FlapDamper();
        Check.set(damper, "half=200");
        Check.set(damper, "slot=3");
        damper.pass(1);
        Check.flap(damper, 0, 0, 3);
        Check.due("9: due", damper.route(0, 0, 3), 24);
        Check.due("9: held at 24", damper.pass(23), 1);
        Check.due("9: due again", damper.route(0, 0, 3), 48);
    }

    private static void slotsAreMultiplesOfSlot() {
        FlapDamper damper = new FlapDamper();
        Check.set(damper, "over=100");
        Check.set(damper, "back=9999");
        Check.set(damper, "slot=50");
        damper.pass(49);
        Check.flap(damper, 0, 0, 1);
        Check.due("9: due", damper.route(0, 0, 3), 50);
        Check.due("9: pass", damper.pass(1), 0);
        Check.due("9: let go", damper.count(7), 1);
        Check.due("9: and gone at once", damper.count(6), 1);
    }

    private static void dueIsLaidOnceOnly() {
        FlapDamper damper = new FlapDamper();
        Check.flap(damper, 0, 0, 3);
        Check.due("8: due", damper.route(0, 0, 3), 80);
        damper.pass(25);
        damper.announce(0, 0, 1, 0);
        Check.due("8: counted", damper.withdraw(0, 0, 0), 3);
        Check.due("8: due stays", damper.route(0, 0, 3), 80);
    }

    private static void heldOnesAreLookedAtAgain() {
        FlapDamper damper = new FlapDamper();
        Check.flap(damper, 1, 4, 3);
        Check.flap(damper, 0, 4, 3);
        damper.announce(1, 4, 6, 0);
        damper.announce(0, 4, 6, 0);
        Check.due("9: held at 119", damper.pass(119), 2);
        Check.due("9: due", damper.route(1, 4, 3), 120 + 10);
        Check.due("9: held at 129", damper.pass(10), 2);
        int changed = damper.best(4, 2);
        Check.due("9: let go at 130", damper.pass(1), 0);
        Check.due("9: line", Check.line(damper, 0), "R04@130");
        Check.due("9: in the order of records", Check.line(damper, 1), "R14@130");
        Check.due("9: best changed once", damper.best(4, 2), changed + 1);
        Check.due("9: best", damper.best(4, 0), 0);
        Check.due("9: let go", damper.count(7), 2);
    }

    private static void smallOnesGo() {
        FlapDamper damper = new FlapDamper();
        Check.set(damper, "back=1000");
        Check.flap(damper, 0, 0, 1);
        damper.pass(5);
        Check.flap(damper, 0, 1, 1);
        damper.pass(55);
        Check.due("9: two times 500 is not less than 1000", damper.record(0), 0);
        damper.pass(9);
        Check.due("9: between slots none goes", damper.count(1), 2);
        Check.due("9: penalty", damper.route(0, 0, 1), 458);
        damper.pass(1);
        Check.due("9: the first goes at 70, the second is 500 still", damper.record(0), 1);
        Check.due("9: went", damper.count(6), 1);
        damper.pass(10);
        Check.due("9: none is left", damper.count(1), 0);
        Check.due("9: went", damper.count(6), 2);
        Check.due("9: no line is written", damper.count(8), 4);
        Check.due("9: nor let go", damper.count(7), 0);
    }

    private static void aLateLookByAnotherSlot() {
        FlapDamper damper = new FlapDamper();
        Check.set(damper, "over=100");
        Check.set(damper, "back=9999");
        Check.flap(damper, 0, 0, 1);
        Check.due("9: due", damper.route(0, 0, 3), 10);
        Check.set(damper, "slot=7");
        Check.due("9: not yet due at 7", damper.pass(13), 1);
        Check.due("9: looked at at 14", damper.pass(1), 0);
    }

    private static void eachTickIsASlotOfOne() {
        FlapDamper damper = new FlapDamper();
        Check.set(damper, "slot=1");
        Check.set(damper, "over=100");
        Check.set(damper, "back=9999");
        Check.flap(damper, 0, 0, 1);
        Check.due("9: due", damper.route(0, 0, 3), 1);
        Check.due("9: when", damper.when(0, 0), 1);
        Check.due("9: pass", damper.pass(1), 0);
        Check.due("9: line", Check.line(damper, 0), "R00@1");
    }

    private static void lettingGoMakesAnotherBest() {
        FlapDamper damper = new FlapDamper();
        for (int prefix = 0; prefix <= 7; prefix += 7) {
            Check.flap(damper, 2, prefix, 3);
            damper.announce(2, prefix, 4, 0);
            Check.due("9: held, so none is best", damper.best(prefix, 0), FlapDamper.NONE);
            Check.due("9: changed", damper.best(prefix, 2), 6);
        }
        damper.pass(130);
        for (int prefix = 0; prefix <= 7; prefix += 7) {
            Check.due("9: best then", damper.best(prefix, 0), 2);
            Check.due("9: changed then", damper.best(prefix, 2), 7);
        }
    }

    private static void passRefuses() {
        FlapDamper damper = new FlapDamper();
        int[] wrong = {0, -1, 201, Integer.MIN_VALUE, Integer.MAX_VALUE};
        for (int ticks : wrong) {
            Check.due("9: pass(" + ticks + ")", damper.pass(ticks), FlapDamper.OUTSIDE);
        }
        Check.due("9: tick", damper.count(0), 0);
        Check.due("9: pass(1)", damper.pass(1), 0);
        Check.due("9: pass(200)", damper.pass(200), 0);
        Check.due("9: tick", damper.count(0), 201);
    }

    private static void passTellsHowManyAreHeld() {
        FlapDamper damper = new FlapDamper();
        Check.flap(damper, 0, 0, 3);
        Check.flap(damper, 1, 0, 4);
        Check.flap(damper, 2, 0, 1);
        Check.due("9: pass", damper.pass(1), 2);
        Check.due("9: pass", damper.pass(139), 1);
        Check.due("9: pass", damper.pass(30), 0);
    }
}
