import java.util.Random;

/** Runs of 512 calls drawn by fixed seeds, each answer against that of the Model. */
public final class ModelTest {
    private static final int RUNS = 5000;
    private static final int CALLS = 512;

    private final Random random;
    private final FlapDamper damper = new FlapDamper();
    private final Model model = new Model();
    private final int run;
    // Few of them meet more often, so that figures grow.
    private final int peers;
    private final int prefixes;
    private final int paths;
    private final int causes;
    private final int mostTicks;
    private final int eventShare;
    private int calls;

    private ModelTest(int run) {
        this.run = run;
        random = new Random(run);
        peers = 1 + random.nextInt(4);
        prefixes = 1 + random.nextInt(8);
        paths = 2 + random.nextInt(9);
        causes = 1 + random.nextInt(12);
        mostTicks = random.nextBoolean() ? 200 : 1 + random.nextInt(20);
        eventShare = 30 + random.nextInt(55);
    }

    public static void main(String[] args) {
        for (int run = 0; run < RUNS && Check.allIsWell(); run++) {
            new ModelTest(run).go();
        }
        Check.end();
    }

    private void go() {
        int settings = random.nextInt(5);
        for (int i = 0; i < settings; i++) {
            setSomeBound();
        }
        while (calls < CALLS && Check.allIsWell()) {
            int draw = random.nextInt(100);
            if (draw < eventShare) {
                someEvent();
            } else if (draw < eventShare + 5) {
                somePass();
            } else if (draw < eventShare + 6) {
                setSomeBound();
            } else {
                someOther();
            }
        }
    }

    private void due(String call, int got, int want) {
        calls++;
        // What calls after the 512th answer is free.
        if (calls > CALLS) {
            return;
        }
        Check.due("run " + run + ", call " + calls + ": " + call, got, want);
    }

    private int near(int number) {
        int draw = random.nextInt(60);
        if (draw == 0) {
            return -1;
        }
        if (draw == 1) {
            return number + random.nextInt(3);
        }
        return random.nextInt(number);
    }

    private int peer() {
        return random.nextInt(80) == 0 ? near(4) : random.nextInt(peers);
    }

    private int prefix() {
        return random.nextInt(80) == 0 ? near(8) : random.nextInt(prefixes);
    }

    private int cause() {
        if (random.nextInt(80) == 0) {
            return 98 + random.nextInt(4);
        }
        return random.nextInt(4) == 0 ? 0 : near(causes + 1);
    }

    private void someEvent() {
        int peer = peer();
        int prefix = prefix();
        int cause = cause();
        if (random.nextInt(3) == 0) {
            due("withdraw(" + peer + ", " + prefix + ", " + cause + ")",
                damper.withdraw(peer, prefix, cause), model.withdraw(peer, prefix, cause));
            return;
        }
        int path = near(paths);
        due("announce(" + peer + ", " + prefix + ", " + path + ", " + cause + ")",
            damper.announce(peer, prefix, path, cause), model.announce(peer, prefix, path, cause));
    }

    private void somePass() {
        int ticks = random.nextInt(30) == 0 ? 199 + random.nextInt(4) : near(mostTicks + 1);
        due("pass(" + ticks + ")", damper.pass(ticks), model.pass(ticks));
    }

    private void setSomeBound() {
        int which = random.nextInt(7);
        int number = random.nextInt(random.nextInt(4) == 0 ? 30000 : 1 + Limits.MOST[which]);
        due("wipe()", damper.wipe(), model.wipe());
        sayAll(Limits.NAMES[which] + "=" + (random.nextInt(5) == 0 ? "0" : "") + number);
        due("fault()", damper.fault(), model.fault());
        due("set()", damper.set(), model.set());
        due("bound(" + which + ")", damper.bound(which), model.bound(which));
    }

    private void sayAll(String text) {
        for (char sign : text.toCharArray()) {
            say(sign);
        }
    }

    private void say(int sign) {
        due("say(" + sign + ")", damper.say(sign), model.say(sign));
    }

    private void someOther() {
        switch (random.nextInt(12)) {
            case 0 -> someRoute();
            case 1 -> someLater();
            case 2 -> someWhen();
            case 3 -> someBest();
            case 4 -> someRecord();
            case 5 -> someLine();
            case 6 -> someCount();
            case 7 -> someImage();
            case 8 -> someSigns();
            case 9 -> due("longest()", damper.longest(), model.longest());
            case 10 -> someBound();
            default -> someRoute();
        }
    }

    private void someRoute() {
        int peer = peer();
        int prefix = prefix();
        for (int what = 0; what < 7; what++) {
            due("route(" + peer + ", " + prefix + ", " + what + ")",
                damper.route(peer, prefix, what), model.route(peer, prefix, what));
        }
        int other = near(7);
        due("route(.., " + other + ")", damper.route(peer, prefix, other), model.route(peer, prefix, other));
    }

    private void someLater() {
        int peer = peer();
        int prefix = prefix();
        int ticks = random.nextInt(3) == 0 ? near(2001) : near(200);
        due("later(" + peer + ", " + prefix + ", " + ticks + ")",
            damper.later(peer, prefix, ticks), model.later(peer, prefix, ticks));
    }

    private void someWhen() {
        int peer = peer();
        int prefix = prefix();
        due("when(" + peer + ", " + prefix + ")", damper.when(peer, prefix), model.when(peer, prefix));
    }

    private void someBest() {
        int prefix = prefix();
        for (int what = 0; what < 4; what++) {
            due("best(" + prefix + ", " + what + ")", damper.best(prefix, what), model.best(prefix, what));
        }
    }

    private void someRecord() {
        for (int i = -1; i < 7; i++) {
            due("record(" + i + ")", damper.record(i), model.record(i));
        }
    }

    private void someLine() {
        int i = random.nextInt(9) - 1;
        for (int k = -2; k < 18; k++) {
            due("line(" + i + ", " + k + ")", damper.line(i, k), model.line(i, k));
        }
    }

    private void someCount() {
        for (int what = -1; what < 11; what++) {
            due("count(" + what + ")", damper.count(what), model.count(what));
        }
    }

    private void someImage() {
        int k = near(2);
        if (random.nextBoolean()) {
            due("image(" + k + ")", damper.image(k), model.image(k));
        } else {
            due("restore(" + k + ")", damper.restore(k), model.restore(k));
        }
    }

    private void someSigns() {
        String name = Limits.NAMES[random.nextInt(7)];
        String text = name.substring(0, random.nextInt(name.length() + 1)) + (random.nextBoolean() ? "=" : "");
        sayAll(text);
        int more = random.nextInt(4);
        for (int i = 0; i < more; i++) {
            say(random.nextBoolean() ? '0' + random.nextInt(11) : random.nextInt(140));
        }
        due("fault()", damper.fault(), model.fault());
        due("set()", damper.set(), model.set());
        if (random.nextBoolean()) {
            due("wipe()", damper.wipe(), model.wipe());
        }
    }

    private void someBound() {
        int which = near(7);
        due("bound(" + which + ")", damper.bound(which), model.bound(which));
    }
}
