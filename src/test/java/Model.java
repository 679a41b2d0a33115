import java.math.BigInteger;
import java.util.ArrayDeque;
import java.util.ArrayList;
import java.util.Comparator;
import java.util.List;
import java.util.function.IntPredicate;
import java.util.regex.Matcher;
import java.util.regex.Pattern;

/** The document once more, in lists and strings and in other ways than the program, to compare answers with. */
final class Model {
    private static final Pattern TEXT = Pattern.compile(
        "R(?:p\\d\\d[0-5][0-3]|g(?:0\\d|1[01])(?:0\\d|1[01])[A-Z]{1,4}\\.|c[0-3][A-Z]{1,4}\\.|y[1-9]"
        + "|b(?:0\\d|1[01])[0-3]|s[0-2]\\d)*");

    static final class Someone {
        int age;
        int family;
        int bench;
        int mistaken;
        int lending;
    }

    static final class Nick {
        String letters;
        int giver;
        int holder;
        int uses;
        int latest;
        int state;
        boolean stuck;

        boolean lives() {
            return state == 0 || state == 1;
        }
    }

    static final class State {
        List<Someone> people = new ArrayList<>();
        List<Nick> nicks = new ArrayList<>();
        int[] settings = {3, 3, 3};
        int year;
        int mixes;
        int nobody;
        int refused;

        State copy() {
            State made = new State();
            for (Someone each : people) {
                Someone one = new Someone();
                one.age = each.age;
                one.family = each.family;
                one.bench = each.bench;
                one.mistaken = each.mistaken;
                one.lending = each.lending;
                made.people.add(one);
            }
            for (Nick each : nicks) {
                Nick one = new Nick();
                one.letters = each.letters;
                one.giver = each.giver;
                one.holder = each.holder;
                one.uses = each.uses;
                one.latest = each.latest;
                one.state = each.state;
                one.stuck = each.stuck;
                made.nicks.add(one);
            }
            made.settings = settings.clone();
            made.year = year;
            made.mixes = mixes;
            made.nobody = nobody;
            made.refused = refused;
            return made;
        }
    }

    String text = "";
    State s = new State();
    ArrayDeque<State> past = new ArrayDeque<>();
    State[] slots = new State[2];

    // ---- what the calls ask for

    private static void need(boolean holds, RuntimeException otherwise) {
        if (!holds) {
            throw otherwise;
        }
    }

    private static void needIn(long v, long least, long most) {
        need(v >= least && v <= most, new IllegalArgumentException());
    }

    private static void needIndex(int v, int size) {
        need(v >= 0 && v < size, new IndexOutOfBoundsException());
    }

    private static String letters(int many, int code) {
        needIn(many, 1, 4);
        needIn(code, 0, BigInteger.valueOf(26).pow(many).intValue() - 1);
        String told = "";
        int rest = code;
        while (told.length() < many) {
            told = (char) ('A' + rest % 26) + told;
            rest /= 26;
        }
        return told;
    }

    private static int code(String letters) {
        return letters.chars().map(c -> c - 'A').reduce(0, (a, b) -> 26 * a + b);
    }

    private void act() {
        past.addLast(s.copy());
        if (past.size() > 14) {
            past.removeFirst();
        }
    }

    // ---- text

    int append(int c) {
        needIn(c, 0, 255);
        need(text.length() < 120, new IllegalStateException());
        text += (char) c;
        return text.length();
    }

    int clearText() {
        int was = text.length();
        text = "";
        return was;
    }

    int errorPosition() {
        if (TEXT.matcher(text).matches()) {
            return -1;
        }
        int longest = 0;
        for (int k = 1; k <= text.length(); k++) {
            Matcher matcher = TEXT.matcher(text.substring(0, k));
            if (matcher.matches() || matcher.hitEnd()) {
                longest = k;
            }
        }
        return longest;
    }

    int load() {
        need(errorPosition() == -1, new IllegalStateException());
        s = new State();
        past.clear();
        slots = new State[2];
        int leftOut = 0;
        for (String command : text.substring(1).split("(?=[a-z])")) {
            if (!command.isEmpty() && !loads(command)) {
                leftOut++;
            }
        }
        return leftOut;
    }

    private boolean loads(String t) {
        State before = s.copy();
        boolean done = false;
        try {
            done = loadsAtAll(t);
        } catch (RuntimeException e) {
            done = false;
        }
        past.clear();
        if (!done) {
            s = before;
        }
        return done;
    }

    private boolean loadsAtAll(String t) {
        String name = t.replaceAll("[^A-Z]", "");
        int many = name.length();
        switch (t.charAt(0)) {
            case 'p': person(number(t, 1, 3), number(t, 3, 4), number(t, 4, 5)); return true;
            case 'g': return give(number(t, 1, 3), number(t, 3, 5), many, code(name)) == 0;
            case 'c': return call(number(t, 1, 2), many, code(name)) != -1;
            case 'y': years(number(t, 1, 2)); return true;
            case 'b': sit(number(t, 1, 3), number(t, 3, 4)); return true;
            default: set(number(t, 1, 2), number(t, 2, 3)); return true;
        }
    }

    private static int number(String t, int from, int to) {
        return Integer.parseInt(t.substring(from, to));
    }

    // ---- what there is

    int about(int what) {
        needIn(what, 0, 14);
        if (what >= 2 && what <= 6) {
            return (int) s.nicks.stream().filter(n -> n.state == what - 2).count();
        }
        if (what >= 12) {
            return s.settings[what - 12];
        }
        int uses = s.nicks.stream().mapToInt(n -> n.uses).sum();
        int[] others = {s.people.size(), s.nicks.size(), 0, 0, 0, 0, 0, s.year, uses, s.mixes, s.nobody, s.refused};
        return others[what];
    }

    int personOf(int p, int what) {
        needIndex(p, s.people.size());
        needIn(what, 0, 8);
        Someone one = s.people.get(p);
        int given = (int) s.nicks.stream().filter(n -> n.giver == p).count();
        int stuck = (int) s.nicks.stream().filter(n -> n.giver == p && n.stuck).count();
        int[] all = {one.age, one.family, one.bench, living(p), brothers(p).size(), given, stuck, one.mistaken, one.lending};
        return all[what];
    }

    private int living(int p) {
        return (int) s.nicks.stream().filter(n -> n.holder == p && n.lives()).count();
    }

    private List<Integer> brothers(int p) {
        List<Integer> found = new ArrayList<>();
        for (int q = 0; q < s.people.size(); q++) {
            if (q != p && s.people.get(q).family == s.people.get(p).family) {
                found.add(q);
            }
        }
        return found;
    }

    int nameOf(int n, int what) {
        needIndex(n, s.nicks.size());
        needIn(what, 0, 7);
        Nick one = s.nicks.get(n);
        int[] all = {one.letters.length(), code(one.letters), one.giver, one.holder, one.uses, one.latest, one.state,
            one.stuck ? 1 : 0};
        return all[what];
    }

    int letter(int n, int place) {
        needIndex(n, s.nicks.size());
        need(place >= 0, new IndexOutOfBoundsException());
        String letters = s.nicks.get(n).letters;
        return place < letters.length() ? letters.charAt(place) - 'A' : -1;
    }

    int roll(int rank) {
        needIn(rank, 0, Integer.MAX_VALUE);
        List<Nick> living = new ArrayList<>(s.nicks.stream().filter(Nick::lives).toList());
        living.sort(Comparator.comparing(n -> n.letters));
        return rank < living.size() ? s.nicks.indexOf(living.get(rank)) : -1;
    }

    int meant(int b, int many, int code, int way) {
        needIndex(b, 4);
        String name = letters(many, code);
        needIn(way, 0, 1);
        return whom(b, name);
    }

    private boolean isCalled(int p, String name) {
        return s.nicks.stream().anyMatch(n -> n.holder == p && n.lives() && n.letters.equals(name));
    }

    private int firstOn(int b, IntPredicate which) {
        for (int p = 0; p < s.people.size(); p++) {
            if (s.people.get(p).bench == b && which.test(p)) {
                return p;
            }
        }
        return -1;
    }

    private int whom(int b, String name) {
        int own = firstOn(b, p -> isCalled(p, name));
        return own != -1 ? own : firstOn(b, p -> brothers(p).stream().anyMatch(q -> isCalled(q, name)));
    }

    // ---- actions

    int person(int age, int family, int bench) {
        needIndex(family, 6);
        needIndex(bench, 4);
        needIn(age, 0, 99);
        need(s.people.size() < 12, new IllegalStateException());
        act();
        Someone one = new Someone();
        one.age = age;
        one.family = family;
        one.bench = bench;
        s.people.add(one);
        return s.people.size() - 1;
    }

    int sit(int p, int bench) {
        needIndex(p, s.people.size());
        needIndex(bench, 4);
        for (Nick own : s.nicks) {
            for (Nick other : s.nicks) {
                boolean clash = own.holder == p && own.lives() && other.holder != p && other.lives()
                    && s.people.get(other.holder).bench == bench && own.letters.equals(other.letters);
                need(!clash, new IllegalStateException());
            }
        }
        act();
        int was = s.people.get(p).bench;
        s.people.get(p).bench = bench;
        return was;
    }

    int give(int giver, int p, int many, int code) {
        int reason = why(giver, p, many, code);
        act();
        if (reason == 0) {
            addNick(giver, p, letters(many, code));
        } else {
            s.refused++;
        }
        return reason;
    }

    private void addNick(int giver, int p, String name) {
        Nick one = new Nick();
        one.letters = name;
        one.giver = giver;
        one.holder = p;
        one.latest = s.year;
        s.nicks.add(one);
    }

    int call(int b, int many, int code) {
        needIndex(b, 4);
        String name = letters(many, code);
        act();
        int p = whom(b, name);
        if (p == -1) {
            s.nobody++;
        } else if (isCalled(p, name)) {
            for (Nick one : s.nicks) {
                if (one.holder == p && one.lives() && one.letters.equals(name)) {
                    one.uses++;
                    one.latest = s.year;
                    if (one.state == 0 && one.uses >= s.settings[0]) {
                        one.state = 1;
                        one.stuck = true;
                    }
                }
            }
        } else {
            s.mixes++;
            s.people.get(p).mistaken++;
            int named = brothers(p).stream().filter(q -> isCalled(q, name)).findFirst().get();
            s.people.get(named).lending++;
        }
        return p;
    }

    int years(int n) {
        needIn(n, 1, 9);
        need(s.year + n <= 999, new IllegalStateException());
        act();
        int ended = 0;
        for (int i = 0; i < n; i++) {
            ended += year();
        }
        return ended;
    }

    private int year() {
        s.year++;
        s.people.forEach(p -> p.age++);
        int ended = 0;
        for (Nick one : new ArrayList<>(s.nicks)) {
            if (!one.lives()) {
                continue;
            }
            if (s.year - one.latest >= s.settings[1]) {
                one.state = 2;
            } else if (s.people.get(one.holder).age > 4 * s.settings[2] * one.letters.length()) {
                int heir = one.state == 1 && s.nicks.size() < 40 ? heir(one.holder) : -1;
                one.state = heir == -1 ? 3 : 4;
                if (heir != -1) {
                    addNick(one.holder, heir, one.letters);
                }
            }
            ended += one.lives() ? 0 : 1;
        }
        return ended;
    }

    private int heir(int p) {
        Someone elder = s.people.get(p);
        return brothers(p).stream()
            .filter(q -> s.people.get(q).age < elder.age && s.people.get(q).bench == elder.bench && living(q) < 3)
            .max(Comparator.comparingInt((Integer q) -> s.people.get(q).age).thenComparing(Comparator.reverseOrder()))
            .orElse(-1);
    }

    int set(int what, int v) {
        needIn(what, 0, 2);
        needIn(v, what == 2 ? 0 : 1, 9);
        act();
        int was = s.settings[what];
        s.settings[what] = v;
        return was;
    }

    int undo() {
        need(!past.isEmpty(), new IllegalStateException());
        s = past.removeLast();
        return past.size();
    }

    // ---- what would be

    int why(int giver, int p, int many, int code) {
        needIndex(giver, s.people.size());
        needIndex(p, s.people.size());
        String name = letters(many, code);
        int bench = s.people.get(p).bench;
        boolean near = brothers(p).contains(giver) || s.people.get(giver).bench == bench;
        boolean[] reasons = {giver == p, !near, living(p) >= 3, firstOn(bench, q -> isCalled(q, name)) != -1,
            s.nicks.size() >= 40};
        for (int i = 0; i < reasons.length; i++) {
            if (reasons[i]) {
                return i + 1;
            }
        }
        return 0;
    }

    int endsIn(int n) {
        needIndex(n, s.nicks.size());
        State kept = s;
        s = s.copy();
        int behind = 0;
        while (s.nicks.get(n).lives()) {
            year();
            behind++;
        }
        s = kept;
        return behind;
    }

    int bestName(int giver, int p, int many) {
        needIndex(giver, s.people.size());
        needIndex(p, s.people.size());
        needIn(many, 1, 2);
        int best = -1;
        int fewest = Integer.MAX_VALUE;
        for (int code = 0; code < (many == 1 ? 26 : 676); code++) {
            int found = 0;
            for (char c : letters(many, code).toCharArray()) {
                found += (int) s.nicks.stream().filter(n -> n.lives() && n.letters.indexOf(c) >= 0).count();
            }
            if (found < fewest && why(giver, p, many, code) == 0) {
                best = code;
                fewest = found;
            }
        }
        return best;
    }

    int bestGiver() {
        int best = -1;
        for (int p = 0; p < s.people.size(); p++) {
            if (personOf(p, 5) > 0 && (best == -1 || outdoes(p, best))) {
                best = p;
            }
        }
        return best;
    }

    private boolean outdoes(int p, int other) {
        double share = (double) personOf(p, 6) / personOf(p, 5);
        double otherShare = (double) personOf(other, 6) / personOf(other, 5);
        return share != otherShare ? share > otherShare : personOf(p, 5) > personOf(other, 5);
    }

    int mixed() {
        int most = s.people.stream().mapToInt(p -> p.mistaken).max().orElse(0);
        for (int p = 0; most > 0 && p < s.people.size(); p++) {
            if (s.people.get(p).mistaken == most) {
                return p;
            }
        }
        return -1;
    }

    // ---- scripts, simulations

    int runScript(int n, long script) {
        needIn(n, 1, 3);
        need(script >= 0 && Long.toString(script).length() <= 6 * n, new IllegalArgumentException());
        String digits = "0".repeat(18) + script;
        digits = digits.substring(digits.length() - 6 * n);
        Model copy = new Model();
        copy.s = s.copy();
        for (int i = 0; i < n; i++) {
            boolean done;
            try {
                done = copy.scripted(digits.substring(6 * i, 6 * i + 6));
            } catch (RuntimeException e) {
                done = false;
            }
            if (!done) {
                return i;
            }
        }
        return -1;
    }

    private boolean scripted(String t) {
        if (t.matches("1....0")) {
            return give(number(t, 1, 2), number(t, 2, 3), 1, number(t, 3, 5)) == 0;
        } else if (t.matches("2...00")) {
            return call(number(t, 1, 2), 1, number(t, 2, 4)) != -1;
        } else if (t.matches("30000.")) {
            years(number(t, 5, 6));
            return true;
        } else if (t.matches("4.000.")) {
            sit(number(t, 1, 2), number(t, 5, 6));
            return true;
        } else if (t.matches("5.000.")) {
            set(number(t, 1, 2), number(t, 5, 6));
            return true;
        } else if (t.matches("6.000.")) {
            return personOf(number(t, 1, 2), 3) >= number(t, 5, 6);
        } else if (t.matches("7....0")) {
            needIndex(number(t, 4, 5), s.people.size());
            return meant(number(t, 1, 2), 1, number(t, 2, 4), 0) == number(t, 4, 5);
        } else if (t.matches("8000..")) {
            return about(3) >= number(t, 4, 6);
        } else if (t.matches("9..00.")) {
            return nameOf(number(t, 1, 3), 6) == number(t, 5, 6);
        }
        return false;
    }

    int simulate(long seed, int m) {
        needIn(m, 1, 60);
        Model copy = new Model();
        copy.s = s.copy();
        BigInteger word = BigInteger.ONE.shiftLeft(64);
        BigInteger x = BigInteger.valueOf(seed);
        for (int i = 0; i < m; i++) {
            x = x.multiply(BigInteger.valueOf(6364136223846793005L)).add(BigInteger.valueOf(1442695040888963407L)).mod(word);
            int r = x.shiftRight(33).intValueExact();
            try {
                copy.turn(r % 16, r / 16);
            } catch (RuntimeException e) {
                // left out, as the document says
            }
        }
        return 10000 * (copy.about(2) + copy.about(3)) + 100 * copy.about(0) + copy.about(9) - about(9);
    }

    private void turn(int kind, int q) {
        if (kind <= 1) {
            person(q % 60, (q / 64) % 6, (q / 512) % 4);
        } else if (kind <= 5) {
            give(q % 12, (q / 16) % 12, 1, (q / 256) % 8);
        } else if (kind <= 11) {
            call(q % 4, 1, (q / 4) % 8);
        } else if (kind == 12) {
            sit(q % 12, (q / 16) % 4);
        } else if (kind == 13) {
            set(q % 3, 1 + (q / 4) % 4);
        } else {
            years(1 + q % 2);
        }
    }

    // ---- save slots

    int save(int slot) {
        needIndex(slot, 2);
        slots[slot] = s.copy();
        return s.nicks.size();
    }

    int restore(int slot) {
        needIndex(slot, 2);
        need(slots[slot] != null, new IllegalStateException());
        s = slots[slot].copy();
        past.clear();
        return s.nicks.size();
    }
}
