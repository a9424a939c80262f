import java.util.ArrayList;
import java.util.Arrays;
import java.util.List;
import java.util.regex.Matcher;
import java.util.regex.Pattern;

/**
 * The document once more, as plainly as the Java library allows and without a thought of speed:
 * what ModelTest holds FlapDamper against. It shares no code with it.
 */
final class Model {
    private static final int UNKNOWN = -1, OUTSIDE = -2, STATE = -3, FULL = -4, NO = -5, NONE = -6, FAULT = -7;
    private static final List<String> NAMES = List.of("half", "slot", "gone", "swap", "over", "back", "top");
    private static final Pattern TELLS = Pattern.compile("(half|slot|gone|swap|over|back|top)=([0-9]{1,5})");
    private static final int[][] CAN_BE =
        {{4, 200}, {1, 50}, {0, 2000}, {0, 2000}, {100, 9999}, {50, 9999}, {100, 20000}};
    private static final long[] ROW = {65536, 60097, 55109, 50535, 46341, 42495, 38968, 35734};

    private static final class Damping {
        final int peer;
        final int prefix;
        int figure;
        int told;
        List<Integer> causes = new ArrayList<>();
        Integer due;

        Damping(int peer, int prefix) {
            this.peer = peer;
            this.prefix = prefix;
        }

        boolean held() {
            return due != null;
        }

        Damping copy() {
            Damping other = new Damping(peer, prefix);
            other.figure = figure;
            other.told = told;
            other.causes = new ArrayList<>(causes);
            other.due = due;
            return other;
        }
    }

    private static final class World {
        int[] bounds = {60, 10, 1000, 500, 2000, 750, 8000};
        Integer[][] paths = new Integer[4][8];
        List<Damping> records = new ArrayList<>();
        List<String> lines = new ArrayList<>();
        String[] bests = new String[8];
        int[] changes = new int[8];
        int[] counts = new int[9];
        int tick;

        World copy() {
            World other = new World();
            other.bounds = bounds.clone();
            for (int peer = 0; peer < 4; peer++) {
                other.paths[peer] = paths[peer].clone();
            }
            for (Damping record : records) {
                other.records.add(record.copy());
            }
            other.lines = new ArrayList<>(lines);
            other.bests = bests.clone();
            other.changes = changes.clone();
            other.counts = counts.clone();
            other.tick = tick;
            return other;
        }

        int bound(String name) {
            return bounds[NAMES.indexOf(name)];
        }

        int lessened(int number, int ticks) {
            int half = bound("half");
            long value = number;
            int left = ticks;
            while (left >= half) {
                value = value / 2;
                left -= half;
            }
            return (int) (value * ROW[8 * left / half] / 65536);
        }

        Damping recordOf(int peer, int prefix) {
            for (Damping record : records) {
                if (record.peer == peer && record.prefix == prefix) {
                    return record;
                }
            }
            return null;
        }

        int penalty(Damping record, int at) {
            return record == null ? 0 : lessened(record.figure, at - record.told);
        }

        int due(Damping record, int from) {
            List<Integer> next = new ArrayList<>();
            for (int t = from + 1; next.size() < 8; t++) {
                if (t % bound("slot") == 0) {
                    next.add(t);
                }
            }
            for (int t : next) {
                if (penalty(record, t) < bound("back")) {
                    return t;
                }
            }
            return next.get(7);
        }

        int event(int peer, int prefix, Integer path, int cause) {
            Integer before = paths[peer][prefix];
            int weighs = path == null ? bound("gone") : before == null ? 0 : bound("swap");
            paths[peer][prefix] = path;
            String line = (path == null ? "W" + peer + prefix : "A" + peer + prefix + ":" + path);
            int end = 0;
            Damping record = recordOf(peer, prefix);
            if (weighs > 0) {
                if (cause != 0 && record != null && record.causes.contains(cause)) {
                    end = 1;
                    line += "~";
                    counts[4]++;
                } else {
                    record = record == null ? newRecord(peer, prefix) : record;
                    end = record == null ? 2 : counted(record, weighs, cause);
                    if (record == null) {
                        counts[5]++;
                        line += "?";
                    } else {
                        line += "+" + weighs + "=" + record.figure + (end == 4 ? "!" : "");
                    }
                }
            }
            counts[3]++;
            lines.add(line);
            seeBests();
            return end;
        }

        Damping newRecord(int peer, int prefix) {
            if (records.size() == 6) {
                Damping first = records.stream().filter(r -> !r.held()).findFirst().orElse(null);
                if (first == null) {
                    return null;
                }
                records.remove(first);
                counts[6]++;
            }
            Damping made = new Damping(peer, prefix);
            made.told = tick;
            records.add(made);
            return made;
        }

        int counted(Damping record, int weighs, int cause) {
            record.figure = Math.min(penalty(record, tick) + weighs, bound("top"));
            record.told = tick;
            if (cause != 0) {
                record.causes.add(cause);
                if (record.causes.size() > 4) {
                    record.causes.remove(0);
                }
            }
            if (record.figure > bound("over") && !record.held()) {
                record.due = due(record, tick);
                return 4;
            }
            return 3;
        }

        void oneTick() {
            tick++;
            if (tick % bound("slot") == 0) {
                for (Damping record : records) {
                    if (record.held() && record.due <= tick) {
                        if (penalty(record, tick) < bound("back")) {
                            record.due = null;
                            counts[7]++;
                            lines.add("R" + record.peer + record.prefix + "@" + tick);
                        } else {
                            record.due = due(record, tick);
                        }
                    }
                }
                int before = records.size();
                records.removeIf(r -> !r.held() && 2 * penalty(r, tick) < bound("back"));
                counts[6] += before - records.size();
            }
            seeBests();
        }

        void seeBests() {
            for (int prefix = 0; prefix < 8; prefix++) {
                String best = best(prefix);
                if (!best.equals(bests[prefix] == null ? "" : bests[prefix])) {
                    changes[prefix]++;
                }
                bests[prefix] = best;
            }
        }

        /** The path, then the peer, a figure each; "" if there is none. */
        String best(int prefix) {
            List<String> open = new ArrayList<>();
            for (int peer = 0; peer < 4; peer++) {
                Damping record = recordOf(peer, prefix);
                if (paths[peer][prefix] != null && (record == null || !record.held())) {
                    open.add(paths[peer][prefix] + "" + peer);
                }
            }
            open.sort(null);
            return open.isEmpty() ? "" : open.get(0);
        }

        int held() {
            return (int) records.stream().filter(Damping::held).count();
        }
    }

    private String text = "";
    private World world = new World();
    private final World[] images = new World[2];

    private static boolean outside(int number, int least, int most) {
        return number < least || number > most;
    }

    private static boolean unknown(int peer, int prefix) {
        return outside(peer, 0, 3) || outside(prefix, 0, 7);
    }

    int say(int sign) {
        if (outside(sign, 33, 126)) {
            return OUTSIDE;
        }
        if (text.length() == 12) {
            return FULL;
        }
        text += (char) sign;
        return text.length();
    }

    int wipe() {
        int before = text.length();
        text = "";
        return before;
    }

    int fault() {
        for (int cut = 1; cut <= text.length(); cut++) {
            Matcher matcher = TELLS.matcher(text.substring(0, cut));
            if (!matcher.matches() && !matcher.hitEnd()) {
                return cut - 1;
            }
        }
        return TELLS.matcher(text).matches() ? NONE : text.length();
    }

    int set() {
        Matcher matcher = TELLS.matcher(text);
        if (!matcher.matches()) {
            return FAULT;
        }
        int which = NAMES.indexOf(matcher.group(1));
        int number = Integer.parseInt(matcher.group(2));
        if (outside(number, CAN_BE[which][0], CAN_BE[which][1])) {
            return OUTSIDE;
        }
        int before = world.bounds[which];
        world.bounds[which] = number;
        text = "";
        return before;
    }

    int bound(int which) {
        return outside(which, 0, 6) ? OUTSIDE : world.bounds[which];
    }

    int announce(int peer, int prefix, int path, int cause) {
        if (unknown(peer, prefix)) {
            return UNKNOWN;
        }
        if (outside(path, 0, 9) || outside(cause, 0, 99)) {
            return OUTSIDE;
        }
        Integer before = world.paths[peer][prefix];
        return before != null && before == path ? NO : world.event(peer, prefix, path, cause);
    }

    int withdraw(int peer, int prefix, int cause) {
        if (unknown(peer, prefix)) {
            return UNKNOWN;
        }
        if (outside(cause, 0, 99)) {
            return OUTSIDE;
        }
        return world.paths[peer][prefix] == null ? NO : world.event(peer, prefix, null, cause);
    }

    int pass(int ticks) {
        if (outside(ticks, 1, 200)) {
            return OUTSIDE;
        }
        for (int i = 0; i < ticks; i++) {
            world.oneTick();
        }
        return world.held();
    }

    int route(int peer, int prefix, int what) {
        if (unknown(peer, prefix)) {
            return UNKNOWN;
        }
        if (outside(what, 0, 6)) {
            return OUTSIDE;
        }
        Damping record = world.recordOf(peer, prefix);
        Integer path = world.paths[peer][prefix];
        if (record == null) {
            int[] told = {path == null ? NONE : path, 0, 0, NONE, NONE, NONE, 0};
            return told[what];
        }
        int[] told = {path == null ? NONE : path, world.penalty(record, world.tick), record.held() ? 1 : 0,
            record.held() ? record.due : NONE, record.figure, record.told, record.causes.size()};
        return told[what];
    }

    int later(int peer, int prefix, int ticks) {
        if (unknown(peer, prefix)) {
            return UNKNOWN;
        }
        if (outside(ticks, 0, 2000)) {
            return OUTSIDE;
        }
        return world.penalty(world.recordOf(peer, prefix), world.tick + ticks);
    }

    /** By letting the ticks pass in a copy. */
    int when(int peer, int prefix) {
        if (unknown(peer, prefix)) {
            return UNKNOWN;
        }
        if (route(peer, prefix, 2) == 0) {
            return NONE;
        }
        World ahead = world.copy();
        for (int i = 0; i < 5000; i++) {
            ahead.oneTick();
            Damping record = ahead.recordOf(peer, prefix);
            if (record == null || !record.held()) {
                return ahead.tick;
            }
        }
        return NONE;
    }

    int longest() {
        for (int ticks = 0; ticks <= 5000; ticks++) {
            if (world.lessened(world.bound("top"), ticks) < world.bound("back")) {
                return ticks;
            }
        }
        return NONE;
    }

    int best(int prefix, int what) {
        if (outside(prefix, 0, 7)) {
            return UNKNOWN;
        }
        if (outside(what, 0, 2)) {
            return OUTSIDE;
        }
        String best = world.best(prefix);
        if (what == 2) {
            return world.changes[prefix];
        }
        return best.isEmpty() ? NONE : best.charAt(1 - what) - '0';
    }

    int record(int i) {
        if (outside(i, 0, world.records.size() - 1)) {
            return NONE;
        }
        return 8 * world.records.get(i).peer + world.records.get(i).prefix;
    }

    int line(int i, int k) {
        int size = world.lines.size();
        if (outside(i, 0, Math.min(size, 6) - 1)) {
            return NONE;
        }
        String line = world.lines.get(size - 1 - i);
        if (outside(k, -1, line.length() - 1)) {
            return NONE;
        }
        return k == -1 ? line.length() : line.charAt(k);
    }

    int count(int what) {
        if (outside(what, 0, 9)) {
            return OUTSIDE;
        }
        if (what == 9) {
            return (images[0] == null ? 0 : 1) + (images[1] == null ? 0 : 2);
        }
        int[] told = Arrays.copyOf(world.counts, 9);
        told[0] = world.tick;
        told[1] = world.records.size();
        told[2] = world.held();
        told[8] = world.lines.size();
        return told[what];
    }

    int image(int k) {
        if (outside(k, 0, 1)) {
            return OUTSIDE;
        }
        images[k] = world.copy();
        return 1;
    }

    int restore(int k) {
        if (outside(k, 0, 1)) {
            return OUTSIDE;
        }
        if (images[k] == null) {
            return STATE;
        }
        world = images[k].copy();
        return 1;
    }
}
