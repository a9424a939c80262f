/** Promises 1 to 6: a new object, say, wipe, fault, set, bound. */
public final class BoundsTest {
    public static void main(String[] args) {
        newObjectIsEmpty();
        sayCountsSigns();
        sayRefuses();
        wipeEmptiesTheText();
        faultIsTheFirstWrongSign();
        setTakesWhatEachBoundCanBe();
        setRefuses();
        setTakesEachLengthOfNumber();
        setLeavesWhatWasToldHeldLaid();
        penaltyGoesByTheNewHalf();
        boundRefuses();
        Check.end();
    }

    private static void newObjectIsEmpty() {
        FlapDamper damper = new FlapDamper();
        for (int peer = 0; peer < 4; peer++) {
            for (int prefix = 0; prefix < 8; prefix++) {
                Check.due("1: path", damper.route(peer, prefix, 0), FlapDamper.NONE);
                Check.due("1: figure", damper.route(peer, prefix, 4), FlapDamper.NONE);
                Check.due("1: best", damper.best(prefix, 0), FlapDamper.NONE);
                Check.due("1: best changed", damper.best(prefix, 2), 0);
            }
        }
        for (int what = 0; what <= 9; what++) {
            Check.due("1: count(" + what + ")", damper.count(what), 0);
        }
        for (int which = 0; which < 7; which++) {
            Check.due("1: bound(" + which + ")", damper.bound(which), Limits.AT_FIRST[which]);
        }
        Check.due("1: record", damper.record(0), FlapDamper.NONE);
        Check.due("1: line", damper.line(0, -1), FlapDamper.NONE);
        Check.due("1: restore(0)", damper.restore(0), FlapDamper.STATE);
        Check.due("1: restore(1)", damper.restore(1), FlapDamper.STATE);
        Check.due("1: wipe", damper.wipe(), 0);
    }

    private static void sayCountsSigns() {
        FlapDamper damper = new FlapDamper();
        Check.due("2: say(33)", damper.say(33), 1);
        Check.due("2: say(126)", damper.say(126), 2);
        for (int i = 3; i <= 12; i++) {
            Check.due("2: say", damper.say('a'), i);
        }
        Check.due("2: say the 13th", damper.say('a'), FlapDamper.FULL);
        Check.due("2: say a wrong 13th", damper.say(32), FlapDamper.OUTSIDE);
        Check.due("2: the text after that", damper.wipe(), 12);
        Check.due("2: say after wipe", damper.say('a'), 1);
    }

    private static void sayRefuses() {
        int[] wrong = {32, 127, 0, -1, 128, 33 + 256, Integer.MIN_VALUE, Integer.MAX_VALUE};
        FlapDamper damper = new FlapDamper();
        damper.say('t');
        for (int sign : wrong) {
            Check.due("2: say(" + sign + ")", damper.say(sign), FlapDamper.OUTSIDE);
        }
        Check.due("2: refused signs change nothing", damper.fault(), 1);
        Check.due("2: the text then", damper.wipe(), 1);
    }

    private static void wipeEmptiesTheText() {
        FlapDamper damper = new FlapDamper();
        Check.say(damper, "half=70");
        Check.due("3: wipe", damper.wipe(), 7);
        Check.due("3: wipe again", damper.wipe(), 0);
        Check.due("3: fault then", damper.fault(), 0);
        Check.due("3: set then", damper.set(), FlapDamper.FAULT);
        Check.due("3: half", damper.bound(0), 60);
    }

    private static void faultIsTheFirstWrongSign() {
        faultOf("", 0);
        faultOf("x", 0);
        faultOf("=1", 0);
        faultOf("1", 0);
        faultOf("HALF=60", 0);
        faultOf("s", 1);
        faultOf("sx", 1);
        faultOf("sw", 2);
        faultOf("sl", 2);
        faultOf("slap", 2);
        faultOf("swot", 2);
        faultOf("half", 4);
        faultOf("halfx", 4);
        faultOf("halfhalfhalf", 4);
        faultOf("half-1", 4);
        faultOf("half=", 5);
        faultOf("half==", 5);
        faultOf("half=x", 5);
        faultOf("half=-1", 5);
        faultOf("half=1x", 6);
        faultOf("half=1=", 6);
        faultOf("half=/", 5);
        faultOf("half=:", 5);
        faultOf("top", 3);
        faultOf("topp", 3);
        faultOf("top=", 4);
        faultOf("top=123456", 9);
        faultOf("top=12345x", 9);
        faultOf("over=999999", 10);
        faultOf("over=9999999", 10);
        for (String name : Limits.NAMES) {
            for (int cut = 0; cut < name.length(); cut++) {
                faultOf(name.substring(0, cut), cut);
            }
            faultOf(name + "=0", FlapDamper.NONE);
            faultOf(name + "=00000", FlapDamper.NONE);
            faultOf(name + "=99999", FlapDamper.NONE);
            faultOf(name + "=000001", name.length() + 6);
        }
    }

    private static void faultOf(String text, int want) {
        FlapDamper damper = new FlapDamper();
        Check.say(damper, text);
        Check.due("4: fault of " + text, damper.fault(), want);
        Check.due("4: fault of " + text + " again", damper.fault(), want);
        Check.due("4: fault changes nothing of " + text, damper.wipe(), text.length());
    }

    private static void setTakesWhatEachBoundCanBe() {
        for (int which = 0; which < 7; which++) {
            FlapDamper damper = new FlapDamper();
            int least = Limits.LEAST[which];
            int most = Limits.MOST[which];
            Check.due("5: least", Check.set(damper, Limits.NAMES[which] + "=" + least), Limits.AT_FIRST[which]);
            Check.due("5: the text then", damper.wipe(), 0);
            Check.due("6: bound", damper.bound(which), least);
            Check.due("5: most", Check.set(damper, Limits.NAMES[which] + "=" + most), least);
            Check.due("5: over most", Check.set(damper, Limits.NAMES[which] + "=" + (most + 1)), FlapDamper.OUTSIDE);
            if (least > 0) {
                String below = Limits.NAMES[which] + "=" + (least - 1);
                Check.due("5: below least", Check.set(damper, below), FlapDamper.OUTSIDE);
            }
            for (int other = 0; other < 7; other++) {
                Check.due("6: bound", damper.bound(other), other == which ? most : Limits.AT_FIRST[other]);
            }
        }
    }

    private static void setRefuses() {
        FlapDamper damper = new FlapDamper();
        Check.due("5: set of no text", damper.set(), FlapDamper.FAULT);
        Check.due("5: a beginning", Check.set(damper, "slot="), FlapDamper.FAULT);
        Check.due("5: the text stays", damper.wipe(), 5);
        Check.due("5: FAULT before OUTSIDE", Check.set(damper, "slot=0x"), FlapDamper.FAULT);
        Check.due("5: OUTSIDE", Check.set(damper, "slot=51"), FlapDamper.OUTSIDE);
        Check.due("5: slot", damper.bound(1), 10);
        Check.due("5: the text stays", damper.wipe(), 7);
        Check.due("5: five nines", Check.set(damper, "top=99999"), FlapDamper.OUTSIDE);
    }

    private static void setTakesEachLengthOfNumber() {
        FlapDamper damper = new FlapDamper();
        Check.due("5: one figure", Check.set(damper, "gone=7"), 1000);
        Check.due("5: zeros ahead", Check.set(damper, "gone=00012"), 7);
        Check.due("5: three figures", Check.set(damper, "gone=345"), 12);
        Check.due("5: gone", damper.bound(2), 345);
        Check.due("5: five figures", Check.set(damper, "top=12345"), 8000);
        Check.due("5: top", damper.bound(6), 12345);
    }

    private static void setLeavesWhatWasToldHeldLaid() {
        FlapDamper damper = new FlapDamper();
        Check.flap(damper, 0, 0, 3);
        Check.due("5: held", damper.route(0, 0, 2), 1);
        Check.set(damper, "over=9999");
        Check.set(damper, "top=100");
        Check.set(damper, "slot=7");
        Check.set(damper, "gone=0");
        Check.set(damper, "back=9999");
        Check.due("5: held still", damper.route(0, 0, 2), 1);
        Check.due("5: figure stays", damper.route(0, 0, 4), 3000);
        Check.due("5: due stays", damper.route(0, 0, 3), 80);
        Check.due("5: when", damper.when(0, 0), 84);
        Check.due("5: pass", damper.pass(83), 1);
        Check.due("5: pass", damper.pass(1), 0);
        Check.due("5: line", Check.line(damper, 0), "R00@84");
    }

    private static void penaltyGoesByTheNewHalf() {
        FlapDamper damper = new FlapDamper();
        Check.flap(damper, 0, 0, 1);
        damper.pass(8);
        Check.due("5: penalty", damper.route(0, 0, 1), 917);
        Check.set(damper, "half=4");
        Check.due("5: penalty by the new half", damper.route(0, 0, 1), 250);
    }

    private static void boundRefuses() {
        FlapDamper damper = new FlapDamper();
        int[] wrong = {-1, 7, Integer.MIN_VALUE, Integer.MAX_VALUE};
        for (int which : wrong) {
            Check.due("6: bound(" + which + ")", damper.bound(which), FlapDamper.OUTSIDE);
        }
    }
}
