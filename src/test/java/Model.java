import java.util.ArrayDeque;
import java.util.ArrayList;
import java.util.Arrays;
import java.util.Collections;
import java.util.Comparator;
import java.util.Deque;
import java.util.List;
import java.util.Set;
import java.util.TreeSet;
import java.util.regex.Matcher;
import java.util.regex.Pattern;

/** The document told a second time, with the whole Java library and no thought of speed. */
final class Model {
    static final int BAD = -1, NO = -2, FULL = -3, NONE = -4;

    /** All that a call, a try, a day or an altering changes. */
    static final class Now {
        int[][] likings;
        int[] callers;
        List<Set<Integer>> knowers = new ArrayList<>();
        int[][] wrongs;
        int days;

        Now copy() {
            Now other = new Now();
            other.likings = Arrays.stream(likings).map(int[]::clone).toArray(int[][]::new);
            other.callers = callers.clone();
            for (Set<Integer> set : knowers) {
                other.knowers.add(new TreeSet<>(set));
            }
            other.wrongs = Arrays.stream(wrongs).map(int[]::clone).toArray(int[][]::new);
            other.days = days;
            return other;
        }
    }

    /** What a text tells. */
    static final class Told {
        int n = 4, b = 3, fault = NONE;
        List<String> people = new ArrayList<>();
        List<int[]> doors = new ArrayList<>();
        List<Integer> words = new ArrayList<>();
    }

    final StringBuilder text = new StringBuilder();
    Told told;
    Now now;
    final List<int[]> seen = new ArrayList<>();
    final Deque<Now> undo = new ArrayDeque<>();
    final Deque<Now> kept = new ArrayDeque<>();

    Model() {
        text.append("n5;p003951;p149062;p258310;p370481;p026737;d0,3;d1,2;d2,2;d3,0;w20;w5;w9;b2;");
        lay();
        text.setLength(0);
    }

    static Told read(String text) {
        Told told = new Told();
        int from = 0;
        boolean onlyN = true;
        while (from < text.length()) {
            int end = text.indexOf(';', from);
            String item = end < 0 ? "" : text.substring(from, end);
            boolean isN = item.startsWith("n");
            if (end < 0 || isN && !onlyN || !tells(told, item)) {
                told.fault = from;
                return told;
            }
            onlyN &= isN;
            from = end + 1;
        }
        return told;
    }

    private static boolean tells(Told told, String item) {
        Matcher number = Pattern.compile("[nwb](\\d{1,2})").matcher(item);
        Matcher door = Pattern.compile("d(\\d{1,2}),(\\d{1,2})").matcher(item);
        if (number.matches()) {
            int value = Integer.parseInt(number.group(1));
            char letter = item.charAt(0);
            if (letter == 'n') {
                told.n = value;
                return value >= 2 && value <= 8;
            }
            if (letter == 'b') {
                told.b = value;
                return value >= 1 && value <= 9;
            }
            told.words.add(value);
            return value >= 1 && value <= 60 && told.words.size() <= 6;
        }
        if (door.matches()) {
            int host = Integer.parseInt(door.group(1));
            int caller = Integer.parseInt(door.group(2));
            told.doors.add(new int[] {host, caller});
            return host < told.n && caller < told.n && told.doors.size() <= 5;
        }
        told.people.add(item);
        return item.matches("p[0-3]\\d{" + told.n + "}") && told.people.size() <= told.n;
    }

    int write(int letter) {
        if (letter < 32 || letter > 126) {
            return BAD;
        }
        if (text.length() == 200) {
            return FULL;
        }
        text.append((char) letter);
        return text.length();
    }

    int wipe() {
        int length = text.length();
        text.setLength(0);
        return length;
    }

    int fault() {
        return read(text.toString()).fault;
    }

    int lay() {
        Told next = read(text.toString());
        if (next.fault != NONE || next.people.size() != next.n || next.doors.isEmpty()) {
            return NO;
        }
        told = next;
        now = new Now();
        now.likings = new int[told.n][told.n];
        for (int i = 0; i < told.n; i++) {
            for (int j = 0; j < told.n; j++) {
                now.likings[i][j] = told.people.get(i).charAt(2 + j) - '0';
            }
        }
        now.callers = told.doors.stream().mapToInt(x -> x[1]).toArray();
        for (int caller : now.callers) {
            now.knowers.add(byCall(caller));
        }
        now.wrongs = new int[told.doors.size()][told.n];
        seen.clear();
        undo.clear();
        kept.clear();
        return told.doors.size();
    }

    private int kind(int i) {
        return told.people.get(i).charAt(1) - '0';
    }

    /** All others whom i likes by more than 0, the dearest first. */
    private List<Integer> byLiking(int i) {
        List<Integer> all = new ArrayList<>();
        for (int j = 0; j < told.n; j++) {
            if (j != i && now.likings[i][j] > 0) {
                all.add(j);
            }
        }
        all.sort(Comparator.<Integer>comparingInt(j -> -now.likings[i][j]).thenComparingInt(j -> j));
        return all;
    }

    private Set<Integer> byCall(int i) {
        Set<Integer> set = new TreeSet<>(List.of(i));
        List<Integer> liked = byLiking(i);
        switch (kind(i)) {
            case 0 -> set.addAll(liked.subList(0, Math.min(2, liked.size())));
            case 1 -> set.addAll(liked.subList(0, Math.min(3, liked.size())));
            case 2 -> { }
            default -> liked.stream().filter(j -> now.likings[i][j] >= 8).forEach(set::add);
        }
        return set;
    }

    private Set<Integer> behind(Set<Integer> knowers, int days) {
        if (days == 0) {
            return knowers;
        }
        Set<Integer> next = new TreeSet<>(knowers);
        for (int i : knowers) {
            if (kind(i) == 1) {
                byLiking(i).stream().filter(j -> !knowers.contains(j)).findFirst().ifPresent(next::add);
            }
        }
        return behind(next, days - 1);
    }

    private static int bits(Set<Integer> set) {
        int bits = 0;
        for (int i : set) {
            bits += 1 << i;
        }
        return bits;
    }

    private boolean noPerson(int i) {
        return i < 0 || i >= told.n;
    }

    private boolean noDoor(int d) {
        return d < 0 || d >= told.doors.size();
    }

    private static boolean outside(int value, int from, int to) {
        return value < from || value > to;
    }

    private int host(int d) {
        return told.doors.get(d)[0];
    }

    int person(int i, int what) {
        if (noPerson(i) || outside(what, 0, 1)) {
            return BAD;
        }
        return what == 0 ? kind(i) : byCall(i).size() - 1;
    }

    int likes(int i, int j) {
        return noPerson(i) || noPerson(j) ? BAD : now.likings[i][j];
    }

    int door(int d, int what) {
        if (noDoor(d) || outside(what, 0, 3)) {
            return BAD;
        }
        Set<Integer> barred = new TreeSet<>();
        for (int i = 0; i < told.n; i++) {
            if (now.wrongs[d][i] == told.b) {
                barred.add(i);
            }
        }
        return new int[] {host(d), now.callers[d], bits(now.knowers.get(d)), bits(barred)}[what];
    }

    private void remember() {
        undo.addLast(now.copy());
        if (undo.size() > 8) {
            undo.removeFirst();
        }
    }

    int call(int i, int d) {
        if (noPerson(i) || noDoor(d)) {
            return BAD;
        }
        remember();
        now.callers[d] = i;
        now.knowers.set(d, byCall(i));
        return now.knowers.get(d).size();
    }

    int tries(int i, int d) {
        if (noPerson(i) || noDoor(d)) {
            return BAD;
        }
        if (now.wrongs[d][i] == told.b) {
            return NO;
        }
        remember();
        boolean opens = now.knowers.get(d).contains(i);
        now.wrongs[d][i] += opens ? 0 : 1;
        return opens ? 1 : 0;
    }

    int day() {
        remember();
        now.knowers.replaceAll(set -> behind(set, 1));
        now.wrongs = new int[told.doors.size()][told.n];
        return ++now.days;
    }

    int alter(int i, int j, int v) {
        if (noPerson(i) || noPerson(j) || outside(v, 0, 9)) {
            return BAD;
        }
        remember();
        int was = now.likings[i][j];
        now.likings[i][j] = v;
        return was;
    }

    int undo() {
        if (undo.isEmpty()) {
            return NO;
        }
        now = undo.removeLast();
        return undo.size();
    }

    private int shutOutIn(List<Set<Integer>> knowers) {
        Set<Integer> shut = new TreeSet<>();
        for (int d = 0; d < knowers.size(); d++) {
            if (!knowers.get(d).contains(host(d))) {
                shut.add(d);
            }
        }
        return bits(shut);
    }

    int shutOut() {
        return shutOutIn(now.knowers);
    }

    int knowsBy(int d, int n) {
        return noDoor(d) || outside(n, 0, 20) ? BAD : bits(behind(now.knowers.get(d), n));
    }

    int when(int i, int d) {
        if (noPerson(i) || noDoor(d)) {
            return BAD;
        }
        int n = 0;
        while (n <= 20 && !behind(now.knowers.get(d), n).contains(i)) {
            n++;
        }
        return n <= 20 ? n : NONE;
    }

    int lets(int d, int n) {
        return noDoor(d) || outside(n, 0, 5) ? BAD : (1 << told.n) - 1 - keeps(host(d), d, n);
    }

    int keeps(int i, int d, int n) {
        if (noPerson(i) || noDoor(d) || outside(n, 0, 5)) {
            return BAD;
        }
        Set<Integer> callers = new TreeSet<>();
        for (int caller = 0; caller < told.n; caller++) {
            if (!behind(byCall(caller), n).contains(i)) {
                callers.add(caller);
            }
        }
        return bits(callers);
    }

    int allIn(int d) {
        if (d != -1 && noDoor(d)) {
            return BAD;
        }
        int[] best = null;
        int fewest = Integer.MAX_VALUE;
        int doors = told.doors.size();
        int plans = (int) Math.pow(told.n + 1, doors);
        for (int plan = 0; plan < plans; plan++) {
            int[] callers = new int[doors];
            int calls = 0;
            boolean allIn = true;
            int rest = plan;
            for (int x = doors - 1; x >= 0; x--) {
                callers[x] = rest % (told.n + 1) - 1;
                rest /= told.n + 1;
                calls += callers[x] < 0 ? 0 : 1;
                Set<Integer> set = callers[x] < 0 ? now.knowers.get(x) : byCall(callers[x]);
                allIn &= set.contains(host(x));
                if (!allIn) {
                    break;
                }
            }
            if (allIn && calls < fewest) {
                fewest = calls;
                best = callers;
            }
        }
        return d == -1 ? fewest : best[d] < 0 ? NONE : best[d];
    }

    int friend(int i, int what) {
        if (noPerson(i) || outside(what, 0, 1)) {
            return BAD;
        }
        List<Integer> others = new ArrayList<>();
        for (int j = 0; j < told.n; j++) {
            others.add(j);
        }
        others.remove((Integer) i);
        int best = Collections.min(others, Comparator.comparingInt((Integer j) -> -now.likings[j][i]));
        return what == 0 ? best : now.likings[best][i];
    }

    int seen(int i, int d, int could) {
        if (noPerson(i) || noDoor(d) || outside(could, 0, 1)) {
            return BAD;
        }
        if (seen.size() == 8) {
            return FULL;
        }
        seen.add(new int[] {i, d, could});
        return seen.size();
    }

    int forget() {
        int size = seen.size();
        seen.clear();
        return size;
    }

    int called(int d) {
        if (noDoor(d)) {
            return BAD;
        }
        Set<Integer> there = new TreeSet<>();
        Set<Integer> cameIn = new TreeSet<>();
        for (int[] one : seen) {
            if (one[1] == d) {
                there.add(one[0]);
                if (one[2] == 1) {
                    cameIn.add(one[0]);
                }
            }
        }
        Set<Integer> callers = new TreeSet<>();
        for (int i = 0; i < told.n; i++) {
            Set<Integer> knowing = new TreeSet<>(byCall(i));
            knowing.retainAll(there);
            if (knowing.equals(cameIn)) {
                callers.add(i);
            }
        }
        return bits(callers);
    }

    private List<Integer> order() {
        List<Integer> order = new ArrayList<>();
        for (int w = 0; w < told.words.size(); w++) {
            order.add(w);
        }
        order.sort(Comparator.comparingInt((Integer w) -> -told.words.get(w)));
        return order;
    }

    int guess(int k) {
        if (k < 0) {
            return BAD;
        }
        return k < told.words.size() ? order().get(k) : NONE;
    }

    private static int lowest(long above, long below, int part) {
        for (long by = below; by > 1; by--) {
            if (above % by == 0 && below % by == 0) {
                above /= by;
                below /= by;
            }
        }
        return (int) (part == 0 ? above : below);
    }

    int mean(int part) {
        if (outside(part, 0, 1)) {
            return BAD;
        }
        long above = 0, below = 0;
        List<Integer> order = order();
        for (int k = 0; k < order.size(); k++) {
            above += (k + 1) * told.words.get(order.get(k));
            below += told.words.get(order.get(k));
        }
        return below == 0 ? NONE : lowest(above, below, part);
    }

    int inTime(int part) {
        if (outside(part, 0, 1)) {
            return BAD;
        }
        long above = 0, below = 0;
        List<Integer> order = order();
        for (int k = 0; k < order.size(); k++) {
            above += k < told.b ? told.words.get(order.get(k)) : 0;
            below += told.words.get(order.get(k));
        }
        return below == 0 ? NONE : lowest(above, below, part);
    }

    private long shutWays(int d, int n, Set<Integer> knowers) {
        if (n == 0) {
            return knowers.contains(host(d)) ? 0 : 1;
        }
        long ways = 0;
        for (int i = 0; i < told.n; i++) {
            ways += shutWays(d, n - 1, behind(knowers.contains(i) ? byCall(i) : knowers, 1));
        }
        return ways;
    }

    int likely(int d, int n, int part) {
        if (noDoor(d) || outside(n, 0, 3) || outside(part, 0, 1)) {
            return BAD;
        }
        return lowest(shutWays(d, n, now.knowers.get(d)), Math.round(Math.pow(told.n, n)), part);
    }

    int street(int z, int n, int what) {
        if (outside(z, 0, 9999) || outside(n, 1, 60) || outside(what, 0, 1)) {
            return BAD;
        }
        List<Set<Integer>> knowers = new ArrayList<>(now.knowers);
        int calm = 0;
        for (int t = 0; t < n; t++) {
            long x = (7919L * z + 6151L * t + 1) % 65521;
            long draw = x * x % 65521 / 4;
            if (draw / 64 % 3 == 0) {
                knowers.replaceAll(set -> behind(set, 1));
            } else {
                knowers.set((int) (draw / 8 % told.doors.size()), byCall((int) (draw % told.n)));
            }
            calm += shutOutIn(knowers) == 0 ? 1 : 0;
        }
        return what == 0 ? shutOutIn(knowers) : calm;
    }

    int keep() {
        if (kept.size() == 2) {
            return FULL;
        }
        kept.addLast(now.copy());
        return kept.size();
    }

    int back() {
        if (kept.isEmpty()) {
            return NO;
        }
        now = kept.removeLast();
        undo.clear();
        return kept.size();
    }

    int count(int what) {
        if (outside(what, 0, 8)) {
            return BAD;
        }
        return new int[] {told.n, told.doors.size(), told.words.size(), now.days, told.b,
            seen.size(), undo.size(), kept.size(), text.length()}[what];
    }
}
