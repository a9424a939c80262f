/** Promises 18 and 19: a test for each sentence that names an edge. */
public final class ImagesEdgesTest {
    public static void main(String[] args) {
        imagesThatThereAre();
        restoresThatThereAre();
        nothingWasKept();
        ofANewObject();
        ofAFullObject();
        inPlaceOfWhatWasKept();
        theImageStays();
        eachImageForItself();
        allButTheText();
        allButTheImages();
        recordsAreKept();
        boundsAreKept();
        Check.end();
    }

    private static void imagesThatThereAre() {
        Check.sentence("All but THE TEXT and IMAGES is kept in an IMAGE (0, 1) .. : 1. OUTSIDE.");
        FlapDamper damper = new FlapDamper();
        for (int k : Check.around(0, 1)) {
            Check.due("image(" + k + ")", damper.image(k), FlapDamper.OUTSIDE);
            Check.due("kept then", damper.count(9), 0);
        }
        Check.due("image(0)", damper.image(0), 1);
        Check.due("image(1)", damper.image(1), 1);
        Check.due("image(0) again", damper.image(0), 1);
        for (int k : Check.around(0, 1)) {
            Check.due("image(" + k + ")", damper.image(k), FlapDamper.OUTSIDE);
        }
    }

    private static void restoresThatThereAre() {
        Check.sentence("the IMAGE stays: 1. OUTSIDE; STATE");
        FlapDamper damper = new FlapDamper();
        for (int time = 0; time < 2; time++) {
            for (int k : Check.around(0, 1)) {
                Check.due("restore(" + k + ")", damper.restore(k), FlapDamper.OUTSIDE);
            }
            damper.image(0);
            damper.image(1);
        }
        Check.due("restore(0)", damper.restore(0), 1);
        Check.due("restore(1)", damper.restore(1), 1);
    }

    private static void nothingWasKept() {
        Check.sentence("STATE: nothing was kept in it");
        for (int k = 0; k < 2; k++) {
            FlapDamper damper = new FlapDamper();
            damper.announce(0, 0, 1, 0);
            Check.due("restore(" + k + ")", damper.restore(k), FlapDamper.STATE);
            damper.image(1 - k);
            Check.due("restore(" + k + ") with the other one kept", damper.restore(k), FlapDamper.STATE);
            Check.due("restore(" + (1 - k) + ")", damper.restore(1 - k), 1);
            Check.due("restore(" + k + ") when that was restored", damper.restore(k), FlapDamper.STATE);
            damper.image(k);
            Check.due("restore(" + k + ") when it is kept", damper.restore(k), 1);
            Check.due("path", damper.route(0, 0, 0), 1);
        }
    }

    private static void ofANewObject() {
        Check.sentence("All but THE TEXT and IMAGES is as it was when it was kept: empty");
        FlapDamper damper = new FlapDamper();
        damper.image(0);
        Check.set(damper, "half=4");
        Check.flap(damper, 0, 0, 3);
        damper.announce(0, 0, 5, 8);
        damper.pass(33);
        damper.restore(0);
        Check.due("all that is told", Scene.allThatIsTold(damper), Scene.allThatIsTold(new FlapDamper()));
    }

    /** Six records, held, of four causes each, and six lines. */
    private static FlapDamper full() {
        FlapDamper damper = new FlapDamper();
        for (int prefix = 0; prefix < 6; prefix++) {
            damper.announce(0, prefix, 0, 0);
            for (int cause = 1; cause <= 5; cause++) {
                damper.announce(0, prefix, cause, 10 * prefix + cause);
            }
        }
        return damper;
    }

    private static void ofAFullObject() {
        Check.sentence("All but THE TEXT and IMAGES is as it was when it was kept: full");
        FlapDamper damper = full();
        Check.due("held", damper.count(2), 6);
        Check.due("causes", damper.route(0, 5, 6), 4);
        damper.image(1);
        damper.announce(0, 5, 6, 77);
        damper.announce(3, 7, 1, 0);
        Check.due("lost", damper.withdraw(3, 7, 0), 2);
        damper.pass(200);
        Check.due("records then", damper.count(1), 0);
        damper.restore(1);
        Check.due("all that is told", Scene.allThatIsTold(damper), Scene.allThatIsTold(full()));
        FlapDamper causes = full();
        causes.image(1);
        causes.announce(0, 5, 6, 77);
        causes.restore(1);
        for (int cause = 1; cause <= 5; cause++) {
            int end = causes.announce(0, 5, 9, 50 + cause);
            Check.due("cause " + (50 + cause), end, cause == 1 ? 3 : 1);
            causes.restore(1);
        }
        Check.due("cause 77", causes.announce(0, 5, 9, 77), 3);
    }

    private static void inPlaceOfWhatWasKept() {
        Check.sentence("in place of what was kept there");
        for (int k = 0; k < 2; k++) {
            FlapDamper damper = full();
            damper.image(k);
            damper.pass(200);
            damper.image(k);
            damper.pass(1);
            damper.restore(k);
            Check.due("tick", damper.count(0), 200);
            Check.due("records", damper.count(1), 0);
        }
    }

    private static void theImageStays() {
        Check.sentence("the IMAGE stays");
        FlapDamper damper = Scene.busy();
        damper.image(0);
        for (int time = 0; time < 4; time++) {
            Scene.goOn(damper);
            Check.due("restore", damper.restore(0), 1);
        }
        Check.due("kept", damper.count(9), 1);
        Check.due("all that is told", Scene.allThatIsTold(damper), Scene.allThatIsTold(Scene.busy()));
    }

    private static void eachImageForItself() {
        Check.sentence("is kept in an IMAGE (0, 1): each for itself");
        FlapDamper damper = new FlapDamper();
        damper.announce(0, 0, 1, 0);
        damper.image(0);
        damper.announce(0, 0, 2, 0);
        damper.image(1);
        damper.restore(0);
        Check.due("path of the first", damper.route(0, 0, 0), 1);
        damper.announce(0, 0, 3, 0);
        damper.image(0);
        damper.restore(1);
        Check.due("path of the second", damper.route(0, 0, 0), 2);
        damper.announce(0, 0, 4, 0);
        damper.restore(0);
        Check.due("path of the new first", damper.route(0, 0, 0), 3);
        Check.due("its figure", damper.route(0, 0, 4), 500);
        damper.restore(1);
        Check.due("path of the second", damper.route(0, 0, 0), 2);
        Check.due("its figure", damper.route(0, 0, 4), 500);
    }

    private static void allButTheText() {
        Check.sentence("All but THE TEXT");
        FlapDamper empty = new FlapDamper();
        empty.image(0);
        Check.say(empty, "half=12345xx");
        empty.restore(0);
        Check.due("a full text stays", empty.fault(), 10);
        Check.due("it is full", empty.say('a'), FlapDamper.FULL);
        Check.due("its signs", empty.wipe(), 12);
        FlapDamper full = new FlapDamper();
        Check.say(full, "half=12345xx");
        full.image(0);
        Check.due("image leaves it", full.fault(), 10);
        full.wipe();
        full.restore(0);
        Check.due("an empty one stays", full.wipe(), 0);
        FlapDamper other = new FlapDamper();
        Check.say(other, "half=70");
        other.image(1);
        other.wipe();
        Check.say(other, "slot=20");
        other.restore(1);
        Check.due("another text stays", other.set(), 10);
        Check.due("slot", other.bound(1), 20);
        Check.due("half", other.bound(0), 60);
    }

    private static void allButTheImages() {
        Check.sentence("All but .. IMAGES");
        FlapDamper damper = new FlapDamper();
        damper.image(0);
        damper.pass(3);
        damper.image(1);
        damper.restore(0);
        Check.due("the second is kept still", damper.count(9), 3);
        Check.due("restore(1)", damper.restore(1), 1);
        Check.due("tick of the second", damper.count(0), 3);
        damper.restore(0);
        Check.due("tick of the first", damper.count(0), 0);
    }

    private static void recordsAreKept() {
        Check.sentence("All .. is as it was when it was kept: RECORDS");
        FlapDamper damper = new FlapDamper();
        damper.pass(3);
        Check.flap(damper, 0, 0, 2);
        damper.image(0);
        damper.pass(2);
        damper.announce(0, 0, 1, 0);
        Check.due("held by this", damper.withdraw(0, 0, 8), 4);
        damper.image(1);
        damper.restore(0);
        recordIs(damper, 2000, 0, FlapDamper.NONE, 2000, 3, 0);
        damper.restore(1);
        recordIs(damper, 3000, 1, 80, 3000, 5, 1);
        damper.restore(0);
        recordIs(damper, 2000, 0, FlapDamper.NONE, 2000, 3, 0);
    }

    private static void recordIs(FlapDamper damper, int... want) {
        for (int i = 0; i < want.length; i++) {
            Check.due("route(0, 0, " + (i + 1) + ")", damper.route(0, 0, i + 1), want[i]);
        }
    }

    private static void boundsAreKept() {
        Check.sentence("All .. is as it was when it was kept: BOUNDS");
        FlapDamper damper = new FlapDamper();
        damper.image(0);
        for (int which = 0; which < 7; which++) {
            Check.set(damper, Limits.NAMES[which] + "=" + Limits.MOST[which]);
        }
        damper.image(1);
        damper.restore(0);
        for (int which = 0; which < 7; which++) {
            Check.due("bound(" + which + ")", damper.bound(which), Limits.AT_FIRST[which]);
        }
        damper.restore(1);
        for (int which = 0; which < 7; which++) {
            Check.due("bound(" + which + ")", damper.bound(which), Limits.MOST[which]);
        }
    }
}
