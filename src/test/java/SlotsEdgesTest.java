/** Terms, section 2: DUE, TICKS; promises 9 and 12: a test for each sentence that names an edge. */
public final class SlotsEdgesTest {
    // What 2000 is lessened to by 0, 10, 20 and so on to 90 ticks, with half 80.
    private static final int[] EACH_SLOT = {2000, 1834, 1681, 1542, 1414, 1296, 1189, 1090, 1000, 917};

    public static void main(String[] args) {
        multiplesGreaterThanT();
        firstBelowBack();
        eighthIfThereIsNone();
        eighthThatIsBelowBack();
        heldWhileBelowBack();
        looksAtMultiplesOfSlot();
        tick0IsNotNew();
        ticksPassOneByOne();
        looksInTheirOrder();
        dueAtThisTick();
        dueBefore();
        dueAfter();
        notHeldIfLessThanBack();
        elseDueIsLaid();
        twoTimesThePenalty();
        manyGoAtOnce();
        heldOnesDoNotGo();
        letGoAndGoneAtOnce();
        ticksThatCanPass();
        howManyAreHeldThen();
        whenOfOneThatIsNotHeld();
        whenIsTheTick();
        whenByOtherBounds();
        whenSomethingCame();
        whenFarAway();
        at512Calls();
        Check.end();
    }

    /** A route that is held with figure 2000, half 80 and slots of 10. */
    private static FlapDamper heldAt2000(String... more) {
        FlapDamper damper = Scene.with("over=100", "half=80");
        for (String bound : more) {
            Check.set(damper, bound);
        }
        Scene.weigh(damper, 0, 0, 2000);
        return damper;
    }

    private static void dueIs(FlapDamper damper, int want) {
        Check.due("due", damper.route(0, 0, 3), want);
    }

    private static void multiplesGreaterThanT() {
        Check.sentence("of the next eight multiples of slot that are greater than t");
        int[][] slotTickDue = {{10, 0, 10}, {10, 1, 10}, {10, 9, 10}, {10, 10, 20}, {10, 11, 20}, {10, 19, 20},
            {10, 20, 30}, {1, 0, 1}, {1, 1, 2}, {1, 7, 8}, {7, 6, 7}, {7, 7, 14}, {7, 8, 14}, {50, 0, 50},
            {50, 49, 50}, {50, 50, 100}, {50, 51, 100}, {50, 200, 250}};
        for (int[] one : slotTickDue) {
            FlapDamper damper = Scene.with("over=100", "back=9999", "slot=" + one[0]);
            damper.pass(one[1]);
            Check.flap(damper, 0, 0, 1);
            Check.due("due by slot " + one[0] + " at " + one[1], damper.route(0, 0, 3), one[2]);
        }
    }

    private static void firstBelowBack() {
        Check.sentence("the first at which the PENALTY will be less than back, if nothing comes");
        for (int k = 1; k <= 8; k++) {
            dueIs(heldAt2000("back=" + (EACH_SLOT[k] + 1)), 10 * k);
            dueIs(heldAt2000("back=" + EACH_SLOT[k - 1]), 10 * k);
        }
        dueIs(heldAt2000("back=9999"), 10);
    }

    private static void eighthIfThereIsNone() {
        Check.sentence("if there is none, the eighth");
        dueIs(heldAt2000("back=1000"), 80);
        dueIs(heldAt2000("back=918"), 80);
        dueIs(heldAt2000("back=50"), 80);
        dueIs(heldAt2000("back=50", "slot=1"), 8);
        dueIs(heldAt2000("back=50", "slot=50", "half=200"), 400);
        FlapDamper later = Scene.with("over=100", "back=50", "half=200", "slot=50");
        later.pass(200);
        Scene.weigh(later, 0, 0, 2000);
        dueIs(later, 600);
    }

    private static void eighthThatIsBelowBack() {
        Check.sentence("the eighth: below back then, or not");
        FlapDamper below = heldAt2000("back=1001");
        dueIs(below, 80);
        Check.due("held at 79", below.pass(79), 1);
        Check.due("held at 80", below.pass(1), 0);
        FlapDamper not = heldAt2000("back=1000");
        dueIs(not, 80);
        Check.due("held at 80", not.pass(80), 1);
        dueIs(not, 90);
        Check.due("held at 89", not.pass(9), 1);
        Check.due("held at 90", not.pass(1), 0);
    }

    private static void heldWhileBelowBack() {
        Check.sentence("if the FIGURE is greater than over: and less than back");
        FlapDamper damper = heldAt2000("back=9999");
        Check.due("held, though below back", damper.route(0, 0, 2), 1);
        dueIs(damper, 10);
        Check.due("held at 9", damper.pass(9), 1);
        Check.due("held at 10", damper.pass(1), 0);
    }

    private static void looksAtMultiplesOfSlot() {
        Check.sentence("At each new TICK that is a multiple of slot RECORDS are looked at");
        int[] slots = {1, 2, 7, 10, 49, 50};
        for (int slot : slots) {
            FlapDamper damper = Scene.with("slot=" + slot);
            for (int time = 1; time <= 3; time++) {
                Scene.weigh(damper, 0, 0, 1);
                if (slot > 1) {
                    damper.pass(slot - 1);
                    Check.due("records one before " + time + " times " + slot, damper.count(1), 1);
                }
                damper.pass(1);
                Check.due("records at " + time + " times " + slot, damper.count(1), 0);
            }
        }
    }

    private static void tick0IsNotNew() {
        Check.sentence("At each new TICK");
        FlapDamper damper = new FlapDamper();
        Scene.weigh(damper, 0, 0, 1);
        Check.due("a small one at 0", damper.count(1), 1);
        damper.pass(10);
        Check.due("at 10", damper.count(1), 0);
        // The look at 10 is over: what comes then is looked at at 20.
        Scene.weigh(damper, 0, 0, 1);
        Check.due("one of 10 at 10", damper.count(1), 1);
        damper.pass(9);
        Check.due("at 19", damper.count(1), 1);
        damper.pass(1);
        Check.due("at 20", damper.count(1), 0);
    }

    private static void ticksPassOneByOne() {
        Check.sentence("TICKS pass one by one.");
        FlapDamper atOnce = Scene.busy();
        atOnce.announce(0, 0, 2, 0);
        FlapDamper oneByOne = Scene.busy();
        oneByOne.announce(0, 0, 2, 0);
        atOnce.pass(90);
        for (int i = 0; i < 90; i++) {
            oneByOne.pass(1);
        }
        Check.due("after 90", Scene.allThatIsTold(oneByOne), Scene.allThatIsTold(atOnce));
        FlapDamper slots = heldAt2000("back=1000");
        slots.pass(100);
        Check.due("let go on the way", Check.line(slots, 0), "R00@90");
    }

    private static void looksInTheirOrder() {
        Check.sentence("RECORDS are looked at, in their order");
        FlapDamper damper = Scene.with("over=100", "back=9999");
        int[] routes = {26, 3, 31, 0, 9, 17};
        for (int route : routes) {
            Check.flap(damper, route / 8, route % 8, 1);
        }
        Check.due("held at 10", damper.pass(10), 0);
        for (int i = 0; i < 6; i++) {
            int route = routes[5 - i];
            Check.due("line " + i, Check.line(damper, i), "R" + route / 8 + route % 8 + "@10");
        }
    }

    private static void dueAtThisTick() {
        Check.sentence("one that is HELD, and DUE at this TICK");
        FlapDamper damper = heldAt2000("back=9999");
        dueIs(damper, 10);
        Check.due("held at 9", damper.pass(9), 1);
        Check.due("held at 10", damper.pass(1), 0);
        Check.due("line", Check.line(damper, 0), "R00@10");
    }

    private static void dueBefore() {
        Check.sentence("DUE at this TICK or before");
        FlapDamper damper = heldAt2000("back=9999");
        Check.set(damper, "slot=9");
        Check.due("held at 17", damper.pass(17), 1);
        dueIs(damper, 10);
        Check.due("held at 18", damper.pass(1), 0);
        Check.due("line", Check.line(damper, 0), "R00@18");
    }

    private static void dueAfter() {
        Check.sentence("DUE at this TICK or before: not after");
        FlapDamper damper = heldAt2000("back=1000");
        Check.set(damper, "back=9999");
        // Far below back at each look, but not yet due.
        Check.due("held at 79", damper.pass(79), 1);
        dueIs(damper, 80);
        Check.due("held at 80", damper.pass(1), 0);
        FlapDamper oneBefore = heldAt2000("back=9999");
        Check.set(oneBefore, "slot=9");
        Check.due("held at 9, due at 10", oneBefore.pass(9), 1);
        dueIs(oneBefore, 10);
    }

    private static void notHeldIfLessThanBack() {
        Check.sentence("is not HELD any more, if its PENALTY is less than back");
        for (int more = -1; more <= 1; more++) {
            FlapDamper damper = heldAt2000("back=9999");
            Check.set(damper, "back=" + (EACH_SLOT[1] + more));
            Check.due("held by back " + more, damper.pass(10), more > 0 ? 0 : 1);
            Check.due("penalty", damper.route(0, 0, 1), EACH_SLOT[1]);
            Check.due("let go", damper.count(7), more > 0 ? 1 : 0);
        }
    }

    private static void elseDueIsLaid() {
        Check.sentence("else DUE is laid");
        FlapDamper first = heldAt2000("back=9999");
        Check.set(first, "back=1834");
        Check.due("held at 10", first.pass(10), 1);
        dueIs(first, 20);
        FlapDamper third = heldAt2000("back=9999");
        Check.set(third, "back=1543");
        Check.due("held at 10", third.pass(10), 1);
        dueIs(third, 30);
        FlapDamper eighth = heldAt2000("back=9999");
        Check.set(eighth, "back=50");
        Check.due("held at 10", eighth.pass(10), 1);
        dueIs(eighth, 90);
        FlapDamper otherSlot = heldAt2000("back=9999");
        Check.set(otherSlot, "back=50");
        Check.set(otherSlot, "slot=3");
        Check.due("held at 12", otherSlot.pass(12), 1);
        dueIs(otherSlot, 36);
    }

    private static void twoTimesThePenalty() {
        Check.sentence("all that are not HELD, and of which two times the PENALTY is less than back, go");
        // With half 200 a figure is its own penalty for the first 25 ticks.
        staysAt10(50, 24, 0);
        staysAt10(50, 25, 1);
        staysAt10(51, 25, 0);
        staysAt10(51, 26, 1);
        staysAt10(750, 374, 0);
        staysAt10(750, 375, 1);
        staysAt10(751, 375, 0);
        staysAt10(751, 376, 1);
        staysAt10(4000, 1999, 0);
        staysAt10(4000, 2000, 1);
        staysAt10(50, 1, 0);
    }

    private static void staysAt10(int back, int figure, int want) {
        FlapDamper damper = Scene.with("half=200", "back=" + back);
        Scene.weigh(damper, 0, 0, figure);
        damper.pass(10);
        Check.due("records of figure " + figure + ", back " + back, damper.count(1), want);
        Check.due("went", damper.count(6), 1 - want);
    }

    private static void manyGoAtOnce() {
        Check.sentence("Then all .. go");
        FlapDamper six = Scene.with("gone=1");
        for (int prefix = 0; prefix < 6; prefix++) {
            Check.flap(six, 1, prefix, 1);
        }
        six.pass(10);
        Check.due("records", six.count(1), 0);
        Check.due("went", six.count(6), 6);
        Check.due("record(0)", six.record(0), FlapDamper.NONE);
        for (int pattern = 0; pattern < 64; pattern++) {
            someGo(pattern);
        }
    }

    private static void someGo(int pattern) {
        FlapDamper damper = Scene.with("half=200");
        for (int prefix = 0; prefix < 6; prefix++) {
            Scene.weigh(damper, 1, prefix, (pattern >> prefix & 1) == 0 ? 374 : 375);
        }
        damper.pass(10);
        int place = 0;
        for (int prefix = 0; prefix < 6; prefix++) {
            if ((pattern >> prefix & 1) == 1) {
                Check.due("record(" + place + ") of pattern " + pattern, damper.record(place), 8 + prefix);
                place++;
            }
        }
        Check.due("records of pattern " + pattern, damper.count(1), place);
        Check.due("went of pattern " + pattern, damper.count(6), 6 - place);
    }

    private static void heldOnesDoNotGo() {
        Check.sentence("all that are not HELD");
        FlapDamper damper = heldAt2000("back=50", "slot=50", "half=200");
        dueIs(damper, 400);
        Check.set(damper, "half=4");
        Check.due("held at 200", damper.pass(200), 1);
        Check.due("penalty", damper.route(0, 0, 1), 0);
        Check.due("records", damper.count(1), 1);
        Check.due("held at 399", damper.pass(199), 1);
        Check.due("held at 400", damper.pass(1), 0);
        Check.due("records", damper.count(1), 0);
    }

    private static void letGoAndGoneAtOnce() {
        Check.sentence("Then all that are not HELD");
        FlapDamper damper = heldAt2000("back=9999");
        damper.pass(10);
        Check.due("let go", damper.count(7), 1);
        Check.due("went", damper.count(6), 1);
        Check.due("records", damper.count(1), 0);
        Check.due("figure", damper.route(0, 0, 4), FlapDamper.NONE);
        // Two times 1834 is not less than 3668: let go, but there still.
        FlapDamper there = heldAt2000("back=3668");
        there.pass(10);
        Check.due("let go", there.count(7), 1);
        Check.due("went", there.count(6), 0);
        Check.due("records", there.count(1), 1);
    }

    private static void ticksThatCanPass() {
        Check.sentence("So many TICKS (1 to 200) pass");
        int[] taken = {1, 2, 199, 200};
        for (int ticks : taken) {
            FlapDamper damper = new FlapDamper();
            Check.due("pass(" + ticks + ")", damper.pass(ticks), 0);
            Check.due("tick after " + ticks, damper.count(0), ticks);
        }
        for (int ticks : Check.around(1, 200)) {
            FlapDamper damper = new FlapDamper();
            Check.due("pass(" + ticks + ")", damper.pass(ticks), FlapDamper.OUTSIDE);
            Check.due("tick after " + ticks, damper.count(0), 0);
        }
    }

    private static void howManyAreHeldThen() {
        Check.sentence("how many ROUTES are HELD then");
        Check.due("of none", new FlapDamper().pass(1), 0);
        for (int held = 0; held <= 6; held++) {
            FlapDamper damper = new FlapDamper();
            for (int prefix = 0; prefix < held; prefix++) {
                Check.flap(damper, 0, prefix, 3);
            }
            Check.due("held before the look", damper.pass(129), held);
            Check.due("held after the look", damper.pass(1), 0);
        }
        Check.due("five of six", Scene.sixRecordsHeldBut(3).pass(1), 5);
    }

    private static void whenOfOneThatIsNotHeld() {
        Check.sentence("NONE: it is not HELD");
        FlapDamper damper = new FlapDamper();
        Check.due("no path", damper.when(0, 0), FlapDamper.NONE);
        damper.announce(0, 0, 1, 0);
        Check.due("a path", damper.when(0, 0), FlapDamper.NONE);
        Check.flap(damper, 0, 0, 2);
        Check.due("a record at over", damper.when(0, 0), FlapDamper.NONE);
        Check.flap(damper, 0, 0, 1);
        Check.due("held", damper.when(0, 0), 130);
        Check.due("another one", damper.when(1, 0), FlapDamper.NONE);
        damper.pass(129);
        Check.due("one tick before", damper.when(0, 0), 130);
        damper.pass(1);
        Check.due("let go at this tick", damper.when(0, 0), FlapDamper.NONE);
    }

    private static void whenIsTheTick() {
        Check.sentence("The TICK at which a ROUTE is not HELD any more, if nothing comes");
        int[] backs = {9999, 1835, 1834, 1001, 1000, 918, 917, 250, 50};
        for (int back : backs) {
            FlapDamper damper = heldAt2000("back=" + back);
            int told = damper.when(0, 0);
            int tick = 0;
            int held = 1;
            while (held == 1 && tick < 450) {
                Check.due("when at " + tick + ", back " + back, tick % 50 == 0 ? damper.when(0, 0) : told, told);
                held = damper.pass(1);
                tick++;
            }
            Check.due("when, back " + back, told, tick);
        }
    }

    private static void whenByOtherBounds() {
        Check.sentence("The TICK at which a ROUTE is not HELD any more: by the BOUNDS of now");
        FlapDamper damper = heldAt2000("back=9999");
        Check.due("by slots of 10", damper.when(0, 0), 10);
        Check.set(damper, "slot=9");
        Check.due("by slots of 9: due before", damper.when(0, 0), 18);
        Check.set(damper, "slot=11");
        Check.due("by slots of 11", damper.when(0, 0), 11);
        damper.pass(10);
        Check.due("at 10", damper.when(0, 0), 11);
        Check.set(damper, "slot=5");
        Check.due("the look at 10 is over", damper.when(0, 0), 15);
        Check.set(damper, "back=1681");
        Check.due("not below back at 15 and 20", damper.when(0, 0), 30);
        Check.set(damper, "half=4");
        Check.due("below it at 15", damper.when(0, 0), 15);
        dueIs(damper, 10);
    }

    private static void whenSomethingCame() {
        Check.sentence("if nothing comes: and something did");
        FlapDamper damper = heldAt2000("back=1001");
        Check.due("when", damper.when(0, 0), 80);
        damper.pass(70);
        damper.announce(0, 0, 1, 0);
        Check.due("counted, held already", damper.announce(0, 0, 2, 0), 3);
        // 1090 and 500, told at 70: at 140 it is 1590 times 35734 by 65536, which is 866, at 130 945, at 120 1030.
        Check.due("when then", damper.when(0, 0), 130);
        dueIs(damper, 80);
        Check.due("held at 80", damper.pass(10), 1);
        dueIs(damper, 130);
        Check.due("held at 129", damper.pass(49), 1);
        Check.due("held at 130", damper.pass(1), 0);
    }

    /** The dearest bounds of all: held for 1750 ticks, so nothing can be HELD still after 5000. */
    private static void whenFarAway() {
        Check.sentence("it is HELD still at the TICK that is 5000 from now");
        FlapDamper damper = Scene.with("half=200", "slot=50", "top=20000", "back=50", "gone=2000");
        Check.flap(damper, 0, 0, 10);
        Check.due("when at 0", damper.when(0, 0), 1750);
        for (int i = 0; i < 8; i++) {
            Check.due("held", damper.pass(200), 1);
        }
        Check.due("when at 1600", damper.when(0, 0), 1750);
        Check.due("held at 1749", damper.pass(149), 1);
        Check.due("when at 1749", damper.when(0, 0), 1750);
        Check.due("held at 1750", damper.pass(1), 0);
    }

    private static void at512Calls() {
        Check.sentence("An object is used for at most 512 calls after it has been made");
        FlapDamper ticks = new FlapDamper();
        for (int i = 1; i <= 500; i++) {
            ticks.pass(200);
        }
        Check.flap(ticks, 3, 7, 3);
        Check.due("when", ticks.when(3, 7), 100130);
        Check.due("due", ticks.route(3, 7, 3), 100080);
        Check.due("told at", ticks.route(3, 7, 5), 100000);
        Check.due("held", ticks.pass(129), 1);
        Check.due("held", ticks.pass(1), 0);
        Check.due("the 512th: the length of R37@100130", ticks.line(0, -1), 10);
        FlapDamper events = new FlapDamper();
        for (int i = 0; i < 510; i++) {
            events.announce(0, 0, i % 2, 0);
        }
        Check.due("events", events.count(3), 510);
        Check.due("the 512th: lines", events.count(8), 510);
    }
}
