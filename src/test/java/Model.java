import java.util.ArrayList;
import java.util.Collections;
import java.util.Comparator;
import java.util.LinkedHashSet;
import java.util.List;
import java.util.Set;
import java.util.TreeSet;
import java.util.regex.Matcher;
import java.util.regex.Pattern;

/**
 * The document said a second time, in another way than the class does: everything that ever was is
 * kept, lists are sorted anew when they are asked for, and an image (and what was ahead of a text)
 * is the list of calls that led there, done again.
 */
final class Model {
    private static final int BAD = -1, NOT = -2, FULL = -3, STATE = -5;
    private static final String NUMBER = "[0-9]{1,3}";
    private static final Pattern TEXT = textPattern();

    private World world = new World();
    private List<int[]> done = new ArrayList<>();
    private List<int[]> image = null;
    private final StringBuilder tape = new StringBuilder();
    private final Object[] holders = new Object[6];

    private record Held(boolean person, int number) {
    }

    private static final class P {
        String name;
        int number, purse, trust = 50, late, debt;
        int[] wishes = new int[10];
    }

    private static final class Link {
        int person, since;
        Integer till = null;
    }

    private record Look(int day, int wear, int links, boolean open) {
    }

    private record Claim(int person, int urgency, int days, int day) {
    }

    private static final class T {
        int number, worth, wear, since, due, deposit;
        P holder = null;
        List<Link> links = new ArrayList<>();
        List<Look> looks = new ArrayList<>();
        List<Claim> claims = new ArrayList<>();

        Link latest() {
            return links.isEmpty() ? null : links.get(links.size() - 1);
        }

        void put(int day) {
            looks.add(new Look(day, wear, links.size(), latest() != null && latest().till == null));
        }

        int newWear() {
            return wear - looks.get(looks.size() - 1).wear;
        }

        List<Claim> list() {
            List<Claim> sorted = new ArrayList<>(claims);
            sorted.sort(Comparator.comparingInt((Claim c) -> -c.urgency).thenComparingInt(c -> c.day)
                    .thenComparingInt(c -> c.person));
            return sorted;
        }

        int fee(int day) {
            if (holder == null || day <= due) {
                return 0;
            }
            return Math.min((day - due) * (1 + worth / 10), deposit);
        }

        List<Integer> blamed() {
            Look ahead = looks.get(looks.size() - 1);
            Set<Integer> who = new LinkedHashSet<>();
            for (int i = 0; i < links.size(); i++) {
                boolean kept = i >= links.size() - 8;
                boolean came = i >= ahead.links || i == ahead.links - 1 && ahead.open;
                if (kept && came) {
                    who.add(links.get(i).person);
                }
            }
            return new ArrayList<>(who);
        }

        int share(int person) {
            List<Integer> who = blamed();
            if (newWear() <= 0 || !who.contains(person)) {
                return 0;
            }
            int cost = worth * newWear() / 9;
            return cost / who.size() + (who.get(0) == person ? cost % who.size() : 0);
        }
    }

    /** All that an image keeps. */
    private static final class World {
        List<P> persons = new ArrayList<>();
        List<T> tools = new ArrayList<>();
        int day = 0, till = 0, brought = 0;
        int[] refusal = {};

        int deed(int[] call) {
            int a = call[1], b = call[2], c = call[3], d = call[4];
            switch (call[0]) {
                case 'p': return person(a, b);
                case 't': return tool(a);
                case 'w': return wish(a, b, c);
                case 'f': return fund(a, b);
                case 'l': return lease(a, b, c);
                case 'c': return claim(a, b, c, d);
                case 'v': return waive(a, b);
                case 'r': return returned(a);
                case 'g': return pass(a, b);
                case 's': return swap(a, b);
                case 'u': return use(a, b);
                case 'k': return look(a);
                case 'd': return days(a);
                default: throw new IllegalArgumentException("no such deed: " + call[0]);
            }
        }

        boolean isP(int p) {
            return p >= 0 && p < persons.size();
        }

        boolean isT(int t) {
            return t >= 0 && t < tools.size();
        }

        int person(int name, int purse) {
            String letters = lettersOf(name);
            if (letters == null || purse < 0 || purse > 9999) {
                return BAD;
            }
            if (persons.stream().anyMatch(p -> p.name.equals(letters))) {
                return STATE;
            }
            if (persons.size() == 12) {
                return FULL;
            }
            P p = new P();
            p.name = letters;
            p.purse = purse;
            p.number = persons.size();
            persons.add(p);
            brought += purse;
            return p.number;
        }

        int tool(int worth) {
            if (worth < 1 || worth > 99) {
                return BAD;
            }
            if (tools.size() == 10) {
                return FULL;
            }
            T t = new T();
            t.number = tools.size();
            t.worth = worth;
            t.put(day);
            tools.add(t);
            return t.number;
        }

        int wish(int p, int t, int v) {
            if (!isP(p) || !isT(t) || v < 0 || v > 9) {
                return BAD;
            }
            int was = persons.get(p).wishes[t];
            persons.get(p).wishes[t] = v;
            return was;
        }

        int fund(int p, int n) {
            if (!isP(p) || n < 1 || n > 999) {
                return BAD;
            }
            P q = persons.get(p);
            int debtThen = Math.max(q.debt - n, 0);
            int rest = n - (q.debt - debtThen);
            if (q.purse + rest > 9999) {
                return STATE;
            }
            till += n - rest;
            q.debt = debtThen;
            q.purse += rest;
            brought += n;
            return q.purse;
        }

        int refuse(int... whys) {
            refusal = whys;
            return STATE;
        }

        int lease(int p, int t, int days) {
            if (!isP(p) || !isT(t) || days < 1 || days > 30) {
                return BAD;
            }
            T tool = tools.get(t);
            if (tool.holder != null || tool.wear == 9) {
                return refuse(1);
            }
            if (persons.get(p).purse < tool.worth) {
                return refuse(2);
            }
            leased(tool, persons.get(p), days);
            return day + days;
        }

        void leased(T tool, P p, int days) {
            p.purse -= tool.worth;
            tool.deposit = tool.worth;
            tool.due = day + days;
            comesTo(tool, p);
        }

        void comesTo(T tool, P p) {
            tool.holder = p;
            tool.since = day;
            Link link = new Link();
            link.person = p.number;
            link.since = day;
            tool.links.add(link);
        }

        Claim next(T tool) {
            for (Claim c : tool.list()) {
                if (tool.wear < 9 && persons.get(c.person).purse >= tool.worth) {
                    return c;
                }
            }
            return null;
        }

        int claim(int p, int t, int urgency, int days) {
            if (!isP(p) || !isT(t) || urgency < 0 || urgency > 9 || days < 1 || days > 30) {
                return BAD;
            }
            T tool = tools.get(t);
            if (tool.holder == persons.get(p) || tool.claims.stream().anyMatch(c -> c.person == p)) {
                return STATE;
            }
            if (tool.claims.size() == 8) {
                return FULL;
            }
            Claim claim = new Claim(p, urgency, days, day);
            tool.claims.add(claim);
            return tool.list().indexOf(claim);
        }

        int waive(int p, int t) {
            if (!isP(p) || !isT(t)) {
                return BAD;
            }
            return tools.get(t).claims.removeIf(c -> c.person == p) ? tools.get(t).claims.size() : NOT;
        }

        int look(int t) {
            if (!isT(t)) {
                return BAD;
            }
            T tool = tools.get(t);
            int n = tool.newWear();
            List<Integer> who = n > 0 ? tool.blamed() : List.of();
            for (int p : who) {
                P q = persons.get(p);
                int share = tool.share(p);
                int paid = share > q.purse ? q.purse : share;
                q.purse -= paid;
                till += paid;
                q.debt += share - paid;
                q.trust = q.trust < n ? 0 : q.trust - n;
            }
            tool.put(day);
            return who.size();
        }

        int returned(int t) {
            if (!isT(t)) {
                return BAD;
            }
            T tool = tools.get(t);
            if (tool.holder == null) {
                return STATE;
            }
            look(t);
            P p = tool.holder;
            int fee = tool.fee(day);
            till += fee;
            p.purse += tool.deposit - fee;
            if (day > tool.due) {
                p.late += 1;
                p.trust = p.trust < 5 ? 0 : p.trust - 5;
            } else if (p.trust < 99) {
                p.trust += 1;
            }
            tool.latest().till = day;
            tool.holder = null;
            tool.deposit = 0;
            Claim claim = next(tool);
            if (claim != null) {
                tool.claims.remove(claim);
                leased(tool, persons.get(claim.person), claim.days);
            }
            return fee;
        }

        int whyNotPassed(T tool, int purse) {
            return day > tool.due ? 3 : purse < tool.deposit ? 2 : 0;
        }

        void passed(T tool, P q) {
            q.purse -= tool.deposit;
            tool.holder.purse += tool.deposit;
            tool.latest().till = day;
            comesTo(tool, q);
        }

        int pass(int t, int p) {
            if (!isT(t) || !isP(p) || tools.get(t).holder == persons.get(p)) {
                return BAD;
            }
            T tool = tools.get(t);
            if (tool.holder == null) {
                return STATE;
            }
            int why = whyNotPassed(tool, persons.get(p).purse);
            if (why != 0) {
                return refuse(6, why);
            }
            passed(tool, persons.get(p));
            return 1;
        }

        boolean ofTwo(T t, T u) {
            return t.holder != null && u.holder != null && t.holder != u.holder;
        }

        int rise(T t, T u) {
            return t.holder.wishes[u.number] - t.holder.wishes[t.number];
        }

        int[] whysNotSwapped(T t, T u) {
            if (rise(t, u) <= 0 || rise(u, t) <= 0) {
                return new int[] {4};
            }
            int first = whyNotPassed(t, u.holder.purse);
            if (first != 0) {
                return new int[] {5, first};
            }
            int second = whyNotPassed(u, t.holder.purse + t.deposit);
            return second != 0 ? new int[] {5, second} : new int[] {};
        }

        int swap(int t, int u) {
            if (!isT(t) || !isT(u) || t == u || !ofTwo(tools.get(t), tools.get(u))) {
                return BAD;
            }
            T first = tools.get(t), second = tools.get(u);
            int[] whys = whysNotSwapped(first, second);
            if (whys.length > 0) {
                return refuse(whys);
            }
            int gain = rise(first, second) + rise(second, first);
            P p = first.holder, q = second.holder;
            passed(first, q);
            passed(second, p);
            return gain;
        }

        int use(int t, int n) {
            if (!isT(t) || n < 1 || n > 9) {
                return BAD;
            }
            if (tools.get(t).holder == null) {
                return STATE;
            }
            tools.get(t).wear = tools.get(t).wear + n > 9 ? 9 : tools.get(t).wear + n;
            return tools.get(t).wear;
        }

        int days(int n) {
            if (n < 1 || n > 99) {
                return BAD;
            }
            day += n;
            return day;
        }

        List<Integer> ranked() {
            List<P> sorted = new ArrayList<>(persons);
            sorted.sort(Comparator.comparingInt((P p) -> -p.trust).thenComparingInt(p -> p.late)
                    .thenComparing(p -> p.name));
            List<Integer> numbers = new ArrayList<>();
            sorted.forEach(p -> numbers.add(p.number));
            return numbers;
        }

        /** Sorted by GAIN, most first, of the same the least: {gain, ten times one and the other}. */
        List<int[]> swapsThatCould() {
            List<int[]> found = new ArrayList<>();
            for (T t : tools) {
                for (T u : tools) {
                    if (t.number < u.number && ofTwo(t, u) && whysNotSwapped(t, u).length == 0) {
                        found.add(new int[] {rise(t, u) + rise(u, t), 10 * t.number + u.number});
                    }
                }
            }
            found.sort(Comparator.comparingInt((int[] f) -> -f[0]).thenComparingInt(f -> f[1]));
            return found;
        }

        int rings() {
            Set<String> found = new TreeSet<>();
            for (T t : tools) {
                for (T u : tools) {
                    for (T v : tools) {
                        boolean unlike = ofTwo(t, u) && ofTwo(u, v) && ofTwo(v, t);
                        if (unlike && rise(t, u) > 0 && rise(u, v) > 0 && rise(v, t) > 0) {
                            List<Integer> ring = new ArrayList<>(List.of(t.number, u.number, v.number));
                            Collections.rotate(ring, -ring.indexOf(Collections.min(ring)));
                            found.add(ring.toString());
                        }
                    }
                }
            }
            return found.size();
        }
    }

    private static String lettersOf(int name) {
        if (name < 1 || name > 19682) {
            return null;
        }
        String digits = Integer.toString(name, 27);
        StringBuilder letters = new StringBuilder();
        for (char digit : digits.toCharArray()) {
            int value = Character.digit(digit, 27);
            if (value == 0) {
                return null;
            }
            letters.append((char) ('a' + value - 1));
        }
        return letters.toString();
    }

    // ---- the calls

    /** What all calls that do something to the world go through. */
    int deed(int... call) {
        int[] whole = new int[5];
        System.arraycopy(call, 0, whole, 0, call.length);
        done.add(whole);
        return world.deed(whole);
    }

    int claim(int p, int t, int ud) {
        return ud < 0 ? BAD : deed('c', p, t, ud / 100, ud % 100);
    }

    int personOf(int p, int what) {
        if (!world.isP(p) || what < 0 || what > 7) {
            return BAD;
        }
        P q = world.persons.get(p);
        int name = 0;
        for (char letter : q.name.toCharArray()) {
            name = name * 27 + (letter - 'a' + 1);
        }
        int held = (int) world.tools.stream().filter(t -> t.holder == q).count();
        int claims = (int) world.tools.stream().flatMap(t -> t.claims.stream()).filter(c -> c.person == p).count();
        return new int[] {name, q.purse, q.trust, q.late, q.debt, held, world.ranked().indexOf(p), claims}[what];
    }

    int toolOf(int t, int what) {
        if (!world.isT(t) || what < 0 || what > 8) {
            return BAD;
        }
        T u = world.tools.get(t);
        boolean out = u.holder != null;
        return new int[] {u.worth, u.wear, out ? u.holder.number : NOT, out ? u.since : NOT, out ? u.due : NOT,
            out ? u.deposit : 0, u.claims.size(), Math.min(u.links.size(), 8), Math.min(u.looks.size(), 6)}[what];
    }

    private static <E> E keptAt(List<E> all, int most, int i) {
        List<E> kept = all.subList(Math.max(all.size() - most, 0), all.size());
        return i < kept.size() ? kept.get(i) : null;
    }

    int link(int t, int i, int what) {
        if (!world.isT(t) || i < 0 || what < 0 || what > 2) {
            return BAD;
        }
        Link link = keptAt(world.tools.get(t).links, 8, i);
        if (link == null) {
            return NOT;
        }
        return what == 0 ? link.person : what == 1 ? link.since : link.till == null ? NOT : link.till;
    }

    int seen(int t, int i, int what) {
        if (!world.isT(t) || i < 0 || what < 0 || what > 1) {
            return BAD;
        }
        Look look = keptAt(world.tools.get(t).looks, 6, i);
        return look == null ? NOT : what == 0 ? look.day : look.wear;
    }

    int claimOf(int t, int i, int what) {
        if (!world.isT(t) || i < 0 || what < 0 || what > 3) {
            return BAD;
        }
        Claim c = keptAt(world.tools.get(t).list(), 8, i);
        return c == null ? NOT : new int[] {c.person, c.urgency, c.days, c.day}[what];
    }

    int ranked(int k) {
        return k < 0 ? BAD : k < world.persons.size() ? world.ranked().get(k) : NOT;
    }

    int why(int i) {
        return i < 0 ? BAD : i < world.refusal.length ? world.refusal[i] : NOT;
    }

    int told(int t, int what) {
        if (!world.isT(t) || what < 0 || what > 2) {
            return BAD;
        }
        T tool = world.tools.get(t);
        if (what == 0) {
            return world.next(tool) == null ? NOT : world.next(tool).person;
        }
        return what == 1 ? tool.blamed().stream().mapToInt(p -> 1 << p).sum() : tool.fee(world.day);
    }

    int share(int t, int p) {
        return world.isT(t) && world.isP(p) ? world.tools.get(t).share(p) : BAD;
    }

    int swaps(int what) {
        switch (what) {
            case 0: return world.swapsThatCould().size();
            case 1: return world.swapsThatCould().isEmpty() ? NOT : world.swapsThatCould().get(0)[1];
            case 2: return world.rings();
            // No coin is lost: all that ever was brought.
            case 3: return world.brought;
            default: return BAD;
        }
    }

    int ahead(int n, int what) {
        if (n < 0 || n > 60 || what < 0 || what > 1) {
            return BAD;
        }
        int then = world.day + n;
        return world.tools.stream().mapToInt(
                t -> what == 1 ? t.fee(then) : t.holder != null && t.due < then ? 1 : 0).sum();
    }

    int judge(int holder, int t) {
        if (holder < 0 || holder > 5 || t != -1 && !world.isT(t)) {
            return BAD;
        }
        if (!(holders[holder] instanceof int[] row)) {
            return holders[holder] == null ? -11 : -12;
        }
        List<Integer> list = new ArrayList<>();
        if (t == -1) {
            list = world.ranked();
        } else {
            for (Claim c : world.tools.get(t).list()) {
                list.add(c.person);
            }
        }
        int i = 0;
        while (i < row.length && i < list.size() && row[i] == list.get(i)) {
            i++;
        }
        return i == row.length && i == list.size() ? NOT : i;
    }

    int feed(int letter) {
        if (letter < 0 || letter > 255) {
            return BAD;
        }
        if (tape.length() == 120) {
            return FULL;
        }
        tape.append((char) letter);
        return tape.length();
    }

    private static Pattern textPattern() {
        String n = " " + NUMBER;
        String line = "(p [a-z]{1,3}" + n + "|[trkd]" + n + "|[gsu]" + n + n + "|[wl]" + n + n + n
                + "|c" + n + n + n + n + ")";
        return Pattern.compile(line + "(;" + line + ")*");
    }

    private static boolean goesOn(String beginning) {
        Matcher matcher = TEXT.matcher(beginning);
        return matcher.matches() || matcher.hitEnd();
    }

    int script() {
        String text = tape.toString();
        tape.setLength(0);
        for (int i = 1; i <= text.length(); i++) {
            if (!goesOn(text.substring(0, i))) {
                return -1000 - (i - 1);
            }
        }
        if (!TEXT.matcher(text).matches()) {
            return -1000 - text.length();
        }
        String[] lines = text.split(";");
        List<int[]> ahead = new ArrayList<>(done);
        for (int i = 0; i < lines.length; i++) {
            String[] parts = lines[i].split(" ");
            int[] call = new int[5];
            call[0] = parts[0].charAt(0);
            for (int j = 1; j < parts.length; j++) {
                call[j] = call[0] == 'p' && j == 1 ? Due.name(parts[j]) : Integer.parseInt(parts[j]);
            }
            if (deed(call) < 0) {
                doAgain(ahead);
                return -2000 - i;
            }
        }
        return lines.length;
    }

    private void doAgain(List<int[]> calls) {
        world = new World();
        done = new ArrayList<>(calls);
        done.forEach(world::deed);
    }

    int image() {
        image = new ArrayList<>(done);
        return world.day;
    }

    int back() {
        if (image == null) {
            return STATE;
        }
        doAgain(image);
        for (int i = 0; i < 6; i++) {
            if (holders[i] instanceof Held h && !(h.person ? world.isP(h.number) : world.isT(h.number))) {
                holders[i] = null;
            }
        }
        return world.day;
    }

    int hold(int holder, int what, int number) {
        if (holder < 0 || holder > 5 || what < 0 || what > 2 || what == 1 && !world.isP(number)
                || what == 2 && !world.isT(number)) {
            return BAD;
        }
        holders[holder] = what == 0 ? null : new Held(what == 1, number);
        return 1;
    }

    int row(int holder, int n) {
        if (holder < 0 || holder > 5 || n > 60) {
            return BAD;
        }
        if (n < 0) {
            return -14;
        }
        holders[holder] = new int[n];
        return 1;
    }

    int put(int holder, int i, int v) {
        if (holder < 0 || holder > 5 || !(holders[holder] instanceof int[] row) || i < 0 || i >= row.length) {
            return -2000000000;
        }
        int was = row[i];
        row[i] = v;
        return was;
    }

    int tells(int holder, int as) {
        if (holder < 0 || holder > 5 || as < 0 || as > 3) {
            return BAD;
        }
        if (holders[holder] == null) {
            return -11;
        }
        if (!(holders[holder] instanceof Held h)) {
            return -12;
        }
        boolean fits = as == 0 || (as == 1) == h.person;
        if (!fits || as == 3 && world.tools.get(h.number).holder == null) {
            return -12;
        }
        switch (as) {
            case 0: return h.number;
            case 1: return world.persons.get(h.number).trust;
            case 2: return world.tools.get(h.number).worth;
            default: return world.tools.get(h.number).holder.number;
        }
    }

    int count(int what) {
        switch (what) {
            case 0: return world.persons.size();
            case 1: return world.tools.size();
            case 2: return (int) world.tools.stream().filter(t -> t.holder != null).count();
            case 3: return world.tools.stream().mapToInt(t -> t.claims.size()).sum();
            case 4: return world.day;
            case 5: return world.till;
            case 6: return world.persons.stream().mapToInt(p -> p.debt).sum();
            case 7: return tape.length();
            case 8: return (int) java.util.Arrays.stream(holders).filter(h -> h != null).count();
            default: return BAD;
        }
    }
}
