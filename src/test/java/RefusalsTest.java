import java.util.ArrayList;
import java.util.List;
import java.util.function.Supplier;
import java.util.function.ToIntFunction;

/**
 * Terms: "Calls that are refused answer the first of these that fits", and "What is refused changes nothing":
 * each call that can be refused, by each ground and by two at once, on a busy object.
 */
public final class RefusalsTest {
    private static final int[] NO_PEERS = Check.around(0, 3);
    private static final int[] NO_PREFIXES = Check.around(0, 7);
    private static final int[] NO_PATHS = Check.around(0, 9);
    private static final int[] NO_CAUSES = Check.around(0, 99);

    private record Refused(String name, ToIntFunction<FlapDamper> call, int want) {
    }

    private static List<Refused> table = new ArrayList<>();

    public static void main(String[] args) {
        answersOfABusyObject();
        answersWithAFullText();
        answersWithNothingKept();
        theTextIsWholeStill();
        whatIsAskedChangesNothing();
        Check.end();
    }

    private static void add(String name, int want, ToIntFunction<FlapDamper> call) {
        table.add(new Refused(name, call, want));
    }

    /** A busy object with image 0 kept of a state before it, image 1 not, and the text half=201. */
    private static FlapDamper busy() {
        FlapDamper damper = Scene.busy();
        damper.image(0);
        damper.announce(3, 6, 4, 0);
        damper.withdraw(3, 6, 66);
        Check.say(damper, "half=201");
        return damper;
    }

    private static FlapDamper busyWithAFullText() {
        FlapDamper damper = busy();
        Check.say(damper, "xxxx");
        return damper;
    }

    private static void answersOfABusyObject() {
        table = new ArrayList<>();
        refusedTexts();
        refusedAnnouncements();
        refusedWithdrawals();
        refusedPasses();
        refusedAsks();
        refusedImages();
        holdAll(RefusalsTest::busy);
    }

    private static void answersWithAFullText() {
        table = new ArrayList<>();
        add("say('a')", FlapDamper.FULL, damper -> damper.say('a'));
        add("say(33)", FlapDamper.FULL, damper -> damper.say(33));
        add("say(126)", FlapDamper.FULL, damper -> damper.say(126));
        for (int sign : Check.around(33, 126)) {
            add("say(" + sign + "): OUTSIDE before FULL", FlapDamper.OUTSIDE, damper -> damper.say(sign));
        }
        add("set()", FlapDamper.FAULT, FlapDamper::set);
        holdAll(RefusalsTest::busyWithAFullText);
    }

    private static void answersWithNothingKept() {
        table = new ArrayList<>();
        add("set()", FlapDamper.FAULT, FlapDamper::set);
        add("restore(0)", FlapDamper.STATE, damper -> damper.restore(0));
        add("restore(1)", FlapDamper.STATE, damper -> damper.restore(1));
        for (int k : Check.around(0, 1)) {
            add("restore(" + k + "): OUTSIDE before STATE", FlapDamper.OUTSIDE, damper -> damper.restore(k));
        }
        holdAll(Scene::busy);
    }

    private static void refusedTexts() {
        for (int sign : Check.around(33, 126)) {
            add("say(" + sign + ")", FlapDamper.OUTSIDE, damper -> damper.say(sign));
        }
        add("set()", FlapDamper.OUTSIDE, FlapDamper::set);
        for (int which : Check.around(0, 6)) {
            add("bound(" + which + ")", FlapDamper.OUTSIDE, damper -> damper.bound(which));
        }
    }

    /** Route (2, 1) has path 5 and a record with cause 9. */
    private static void refusedAnnouncements() {
        for (int peer : NO_PEERS) {
            add("announce, peer " + peer, FlapDamper.UNKNOWN, damper -> damper.announce(peer, 1, 3, 9));
            for (int prefix : NO_PREFIXES) {
                add("announce, neither", FlapDamper.UNKNOWN, damper -> damper.announce(peer, prefix, 3, 9));
            }
            for (int path : NO_PATHS) {
                add("announce: UNKNOWN before OUTSIDE", FlapDamper.UNKNOWN,
                    damper -> damper.announce(peer, 1, path, 100));
            }
        }
        for (int prefix : NO_PREFIXES) {
            add("announce, prefix " + prefix, FlapDamper.UNKNOWN, damper -> damper.announce(2, prefix, 3, 9));
            for (int cause : NO_CAUSES) {
                add("announce: UNKNOWN before OUTSIDE", FlapDamper.UNKNOWN,
                    damper -> damper.announce(2, prefix, 5, cause));
            }
        }
        for (int path : NO_PATHS) {
            add("announce, path " + path, FlapDamper.OUTSIDE, damper -> damper.announce(2, 1, path, 0));
            add("announce, path and cause", FlapDamper.OUTSIDE, damper -> damper.announce(2, 1, path, 100));
        }
        for (int cause : NO_CAUSES) {
            add("announce, cause " + cause, FlapDamper.OUTSIDE, damper -> damper.announce(2, 1, 3, cause));
            add("announce: OUTSIDE before NO", FlapDamper.OUTSIDE, damper -> damper.announce(2, 1, 5, cause));
        }
        add("announce, its path", FlapDamper.NO, damper -> damper.announce(2, 1, 5, 0));
        add("announce, its path, an echo", FlapDamper.NO, damper -> damper.announce(2, 1, 5, 9));
        add("announce, its path, a new cause", FlapDamper.NO, damper -> damper.announce(2, 1, 5, 99));
    }

    /** Route (2, 1) has a path, route (0, 0) has none, but a record that is held. */
    private static void refusedWithdrawals() {
        for (int peer : NO_PEERS) {
            add("withdraw, peer " + peer, FlapDamper.UNKNOWN, damper -> damper.withdraw(peer, 1, 9));
            for (int prefix : NO_PREFIXES) {
                add("withdraw, neither", FlapDamper.UNKNOWN, damper -> damper.withdraw(peer, prefix, 9));
            }
        }
        for (int prefix : NO_PREFIXES) {
            add("withdraw, prefix " + prefix, FlapDamper.UNKNOWN, damper -> damper.withdraw(2, prefix, 9));
        }
        for (int cause : NO_CAUSES) {
            add("withdraw: UNKNOWN before OUTSIDE", FlapDamper.UNKNOWN, damper -> damper.withdraw(4, 1, cause));
            add("withdraw: UNKNOWN before OUTSIDE", FlapDamper.UNKNOWN, damper -> damper.withdraw(2, 8, cause));
            add("withdraw, cause " + cause, FlapDamper.OUTSIDE, damper -> damper.withdraw(2, 1, cause));
            add("withdraw: OUTSIDE before NO", FlapDamper.OUTSIDE, damper -> damper.withdraw(0, 0, cause));
        }
        add("withdraw, no path", FlapDamper.NO, damper -> damper.withdraw(0, 0, 0));
        add("withdraw, no path, an echo", FlapDamper.NO, damper -> damper.withdraw(0, 0, 3));
        add("withdraw, no path, no record", FlapDamper.NO, damper -> damper.withdraw(2, 7, 1));
    }

    private static void refusedPasses() {
        for (int ticks : Check.around(1, 200)) {
            add("pass(" + ticks + ")", FlapDamper.OUTSIDE, damper -> damper.pass(ticks));
        }
    }

    private static void refusedAsks() {
        for (int peer : NO_PEERS) {
            add("route, peer " + peer, FlapDamper.UNKNOWN, damper -> damper.route(peer, 0, 1));
            add("route: UNKNOWN before OUTSIDE", FlapDamper.UNKNOWN, damper -> damper.route(peer, 0, 7));
            add("later, peer " + peer, FlapDamper.UNKNOWN, damper -> damper.later(peer, 0, 1));
            add("later: UNKNOWN before OUTSIDE", FlapDamper.UNKNOWN, damper -> damper.later(peer, 0, 2001));
            add("when, peer " + peer, FlapDamper.UNKNOWN, damper -> damper.when(peer, 0));
        }
        for (int prefix : NO_PREFIXES) {
            add("route, prefix " + prefix, FlapDamper.UNKNOWN, damper -> damper.route(0, prefix, 1));
            add("route: UNKNOWN before OUTSIDE", FlapDamper.UNKNOWN, damper -> damper.route(0, prefix, -1));
            add("later, prefix " + prefix, FlapDamper.UNKNOWN, damper -> damper.later(0, prefix, 1));
            add("later: UNKNOWN before OUTSIDE", FlapDamper.UNKNOWN, damper -> damper.later(0, prefix, -1));
            add("when, prefix " + prefix, FlapDamper.UNKNOWN, damper -> damper.when(0, prefix));
            add("best, prefix " + prefix, FlapDamper.UNKNOWN, damper -> damper.best(prefix, 0));
            add("best: UNKNOWN before OUTSIDE", FlapDamper.UNKNOWN, damper -> damper.best(prefix, 3));
        }
        for (int what : Check.around(0, 6)) {
            add("route, what " + what, FlapDamper.OUTSIDE, damper -> damper.route(0, 0, what));
        }
        for (int ticks : Check.around(0, 2000)) {
            add("later, ticks " + ticks, FlapDamper.OUTSIDE, damper -> damper.later(0, 0, ticks));
        }
        for (int what : Check.around(0, 2)) {
            add("best, what " + what, FlapDamper.OUTSIDE, damper -> damper.best(0, what));
        }
        for (int what : Check.around(0, 9)) {
            add("count(" + what + ")", FlapDamper.OUTSIDE, damper -> damper.count(what));
        }
        for (int i : Check.around(0, 5)) {
            add("record(" + i + ")", FlapDamper.NONE, damper -> damper.record(i));
            add("line(" + i + ", -1)", FlapDamper.NONE, damper -> damper.line(i, -1));
        }
        for (int k : Check.around(-1, 17)) {
            add("line(0, " + k + ")", FlapDamper.NONE, damper -> damper.line(0, k));
        }
    }

    private static void refusedImages() {
        for (int k : Check.around(0, 1)) {
            add("image(" + k + ")", FlapDamper.OUTSIDE, damper -> damper.image(k));
            add("restore(" + k + ")", FlapDamper.OUTSIDE, damper -> damper.restore(k));
        }
        add("restore(1)", FlapDamper.STATE, damper -> damper.restore(1));
    }

    private static void holdAll(Supplier<FlapDamper> scene) {
        Check.sentence("Calls that are refused answer the first of these that fits");
        for (Refused one : table) {
            FlapDamper damper = scene.get();
            Check.due(one.name, one.call.applyAsInt(damper), one.want);
            Check.due(one.name + " again", one.call.applyAsInt(damper), one.want);
        }
        Check.sentence("What is refused changes nothing.");
        String now = tellNow(scene.get());
        String later = tellLater(scene.get());
        String kept = tellKept(scene.get());
        for (Refused one : table) {
            Check.due(one.name + ": what is told", tellNow(refuse(scene, one)), now);
            Check.due(one.name + ": what comes after", tellLater(refuse(scene, one)), later);
            Check.due(one.name + ": what was kept", tellKept(refuse(scene, one)), kept);
        }
    }

    private static FlapDamper refuse(Supplier<FlapDamper> scene, Refused one) {
        FlapDamper damper = scene.get();
        one.call.applyAsInt(damper);
        return damper;
    }

    private static String tellNow(FlapDamper damper) {
        return damper.count(9) + " " + damper.fault() + " " + damper.wipe() + " " + Scene.allThatIsTold(damper);
    }

    private static String tellLater(FlapDamper damper) {
        Scene.goOn(damper);
        return Scene.allThatIsTold(damper);
    }

    private static String tellKept(FlapDamper damper) {
        return damper.restore(0) + " " + Scene.allThatIsTold(damper);
    }

    /** A text can't be read, but what it lacks can be said: only the whole one tells half 200 then. */
    private static void theTextIsWholeStill() {
        Check.sentence("What is refused changes nothing: THE TEXT");
        table = new ArrayList<>();
        refusedTexts();
        refusedAnnouncements();
        refusedWithdrawals();
        refusedPasses();
        refusedAsks();
        refusedImages();
        for (Refused one : table) {
            FlapDamper damper = Scene.busy();
            Check.say(damper, "half=20");
            // set would take this text.
            if (!one.name.equals("set()")) {
                one.call.applyAsInt(damper);
            }
            Check.due(one.name + ", then say", damper.say('0'), 8);
            Check.due(one.name + ", then set", damper.set(), 60);
            Check.due(one.name + ", then bound", damper.bound(0), 200);
        }
        FlapDamper outside = new FlapDamper();
        Check.say(outside, "half=2");
        Check.due("set half=2", outside.set(), FlapDamper.OUTSIDE);
        outside.say('0');
        Check.due("set half=20", outside.set(), 60);
        FlapDamper fault = new FlapDamper();
        Check.say(fault, "half=");
        Check.due("set half=", fault.set(), FlapDamper.FAULT);
        fault.say('9');
        Check.due("set half=9", fault.set(), 60);
        Check.due("half", fault.bound(0), 9);
    }

    private static void whatIsAskedChangesNothing() {
        Check.sentence("---- 3 what is told");
        String now = tellNow(busy());
        String later = tellLater(busy());
        String kept = tellKept(busy());
        Check.due("what is told", tellNow(askAll(busy())), now);
        Check.due("what comes after", tellLater(askAll(busy())), later);
        Check.due("what was kept", tellKept(askAll(busy())), kept);
    }

    private static FlapDamper askAll(FlapDamper damper) {
        damper.fault();
        damper.longest();
        for (int prefix = 0; prefix < 2; prefix++) {
            damper.bound(prefix);
            damper.best(prefix, prefix);
            damper.when(prefix, prefix);
            damper.later(prefix, prefix, 2000);
            damper.route(prefix, prefix, 1);
            damper.route(prefix, prefix, 3);
            damper.record(prefix);
            damper.line(prefix, -1);
            damper.line(prefix, 0);
            damper.count(prefix);
        }
        damper.count(9);
        return damper;
    }
}
