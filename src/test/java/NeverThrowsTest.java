import java.util.Random;

/** Rule 7 of LANGUAGE.md: no call throws, for any arguments in any state, after the 512th call too. */
public final class NeverThrowsTest {
    private static final int OBJECTS = 20;
    private static final int CALLS = 20000;
    private static final int[] WILD = {Integer.MIN_VALUE, Integer.MIN_VALUE + 1, -7, -6, -1, 10, 12, 13, 100, 201,
        2001, Integer.MAX_VALUE - 1, Integer.MAX_VALUE};
    private static final String SIGNS = "halfslotgoneswapoverbacktop==0123456789";

    public static void main(String[] args) {
        for (int seed = 0; seed < OBJECTS; seed++) {
            Random random = new Random(seed);
            FlapDamper damper = new FlapDamper();
            for (int i = 0; i < CALLS; i++) {
                Check.due("an answer of less than FAULT", callOne(damper, random) < FlapDamper.FAULT ? 1 : 0, 0);
            }
        }
        Check.end();
    }

    private static int any(Random random, int number) {
        return random.nextInt(12) == 0 ? WILD[random.nextInt(WILD.length)] : random.nextInt(number);
    }

    private static int callOne(FlapDamper damper, Random random) {
        int peer = any(random, 4);
        int prefix = any(random, 8);
        switch (random.nextInt(20)) {
            case 0: return damper.say(any(random, 140));
            case 1: return damper.wipe();
            case 2: return damper.fault();
            case 3: return damper.set();
            case 4: return damper.bound(any(random, 7));
            case 5: case 6: return damper.announce(peer, prefix, any(random, 10), any(random, 100));
            case 7: return damper.withdraw(peer, prefix, any(random, 100));
            case 8: return damper.pass(any(random, 30));
            case 9: return damper.route(peer, prefix, any(random, 7));
            case 10: return damper.later(peer, prefix, any(random, 2001));
            case 11: return damper.when(peer, prefix);
            case 12: return damper.longest();
            case 13: return damper.best(prefix, any(random, 3));
            case 14: return damper.record(any(random, 6));
            case 15: return damper.line(any(random, 6), any(random, 18));
            case 16: return damper.count(any(random, 10));
            case 17: return damper.image(any(random, 2));
            case 18: return damper.restore(any(random, 2));
            default: return setSome(damper, random);
        }
    }

    private static int setSome(FlapDamper damper, Random random) {
        int start = random.nextInt(SIGNS.length());
        Check.say(damper, SIGNS.substring(start, Math.min(SIGNS.length(), start + 4)));
        return Check.set(damper, "half=" + random.nextInt(210)) + Check.set(damper, "slot=" + random.nextInt(52)) < 0
            ? FlapDamper.OUTSIDE : 0;
    }
}
