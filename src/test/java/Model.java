import java.math.BigInteger;
import java.util.ArrayList;
import java.util.Arrays;
import java.util.List;
import java.util.TreeSet;

/** What IronedOut is to answer, the long way: all is copied, simulated and tried. */
final class Model {
    private static final class Crease {
        int person;
        int year;
        int told;
        int worth;
        int depth;
        int how;

        Crease copy() {
            Crease c = new Crease();
            c.person = person;
            c.year = year;
            c.told = told;
            c.worth = worth;
            c.depth = depth;
            c.how = how;
            return c;
        }
    }

    private static final class State {
        List<int[]> persons = new ArrayList<>();
        List<Crease> creases = new ArrayList<>();
        TreeSet<Integer> ties = new TreeSet<>();
        int heat = 5;
        int hour = 0;
        int x = 167;
        List<int[]> book = new ArrayList<>();
        List<State> steps = new ArrayList<>();
        List<ModelText> texts = new ArrayList<>();
        int ruling = -1;
        List<List<int[]>> lists = new ArrayList<>();

        State() {
            for (int i = 0; i < 6; i++) {
                lists.add(new ArrayList<>());
            }
        }

        State copy() {
            State s = new State();
            for (int[] p : persons) {
                s.persons.add(p.clone());
            }
            for (Crease c : creases) {
                s.creases.add(c.copy());
            }
            s.ties.addAll(ties);
            s.heat = heat;
            s.hour = hour;
            s.x = x;
            s.book.addAll(book);
            s.steps.addAll(steps);
            s.texts.addAll(texts);
            s.ruling = ruling;
            for (int i = 0; i < 6; i++) {
                s.lists.get(i).addAll(lists.get(i));
            }
            return s;
        }
    }

    private State s = new State();
    private State kept = new State();
    private byte[] tape = new byte[0];
    private ModelText latest = null;

    int person(int skin, int coins) {
        if (skin < 0 || skin > 2 || coins < 0 || coins > 9999 || s.persons.size() == 5) {
            return -1;
        }
        s.persons.add(new int[] {skin, coins, coins});
        return s.persons.size() - 1;
    }

    int crease(int person, int year, int depth, int worth) {
        if (person < 0 || person >= s.persons.size() || year < 0 || year > 99 || depth < 1 || depth > 9
            || worth < -9 || worth > 9 || s.creases.size() == 12) {
            return -1;
        }
        Crease c = new Crease();
        c.person = person;
        c.year = year;
        c.told = depth;
        c.depth = depth;
        c.worth = worth;
        s.creases.add(c);
        return s.creases.size() - 1;
    }

    private boolean told(int crease) {
        return crease >= 0 && crease < s.creases.size();
    }

    boolean tie(int one, int other) {
        return told(one) && told(other) && one != other && s.ties.add(one * 12 + other);
    }

    boolean heat(int heat) {
        if (heat < 0 || heat > 9) {
            return false;
        }
        s.heat = heat;
        return true;
    }

    int feed(int... five) {
        if (tape.length + 20 > 300) {
            return -1;
        }
        java.nio.ByteBuffer more = java.nio.ByteBuffer.allocate(tape.length + 20).put(tape);
        for (int i : five) {
            more.putInt(i);
        }
        tape = more.array();
        return tape.length;
    }

    int end(int n) {
        if (n < 0 || n > tape.length) {
            return -1;
        }
        tape = Arrays.copyOf(tape, n);
        return n;
    }

    int text() {
        if (s.texts.size() == 4) {
            return -1;
        }
        latest = new ModelText(tape);
        tape = new byte[0];
        if (latest.fault != 0) {
            return -1;
        }
        s.texts.add(latest);
        return s.texts.size() - 1;
    }

    int fault(int what) {
        return latest == null || what < 0 || what > 1 ? -1 : what == 0 ? latest.fault : latest.place;
    }

    boolean by(int text) {
        if (text < -1 || text >= s.texts.size()) {
            return false;
        }
        s.ruling = text;
        return true;
    }

    private int law(String which, int crease, int text) {
        Crease c = s.creases.get(crease);
        int skin = s.persons.get(c.person)[0];
        Long asked = text < 0 ? null : s.texts.get(text).law(which, new ModelText.Names() {
            public long name(String name) {
                switch (name) {
                    case "hour": return s.hour;
                    case "heat": return s.heat;
                    case "who": return c.person;
                    case "skin": return skin;
                    case "year": return c.year;
                    case "depth": return c.depth;
                    case "worth": return c.worth;
                    case "coins": return s.persons.get(c.person)[2];
                    default: return members(hanging(crease)).size();
                }
            }

            public long deep(long number) {
                return number < 0 || number >= s.creases.size() ? 0 : s.creases.get((int) number).depth;
            }
        });
        if (which.equals("presses")) {
            return asked == null ? skin == 2 ? 1 : s.heat / 2 : (int) Math.max(0, Math.min(9, asked));
        }
        if (which.equals("scorches")) {
            return asked == null ? Math.max(0, s.heat - 6) : (int) Math.max(0, Math.min(10, asked));
        }
        return asked == null ? c.depth : (int) Math.max(0, Math.min(9999, asked));
    }

    private static List<Integer> members(int set) {
        List<Integer> list = new ArrayList<>();
        for (int i = 0; i < 32; i++) {
            if ((set & 1 << i) != 0) {
                list.add(i);
            }
        }
        return list;
    }

    int hanging(int crease) {
        return told(crease) ? hangingFrom(crease, 0) : -1;
    }

    private int hangingFrom(int crease, int seen) {
        int set = seen | 1 << crease;
        for (int one = 0; one < 12; one++) {
            if ((set & 1 << one) == 0 && s.ties.contains(one * 12 + crease)) {
                set = hangingFrom(one, set);
            }
        }
        return set;
    }

    private void write(int crease, int what) {
        s.book.add(new int[] {s.hour, crease, what});
        if (s.book.size() > 30) {
            s.book.remove(0);
        }
    }

    private void step() {
        State ahead = s.copy();
        ahead.steps.clear();
        s.steps.add(ahead);
        if (s.steps.size() > 30) {
            s.steps.remove(0);
        }
    }

    private boolean there(int crease) {
        return told(crease) && s.creases.get(crease).how == 0;
    }

    private int draw() {
        int drawn = s.x % 10;
        s.x = (s.x * 401 + 281) % 30509;
        return drawn;
    }

    private void gone(int crease) {
        s.creases.get(crease).how = 1;
        s.creases.get(crease).depth = 0;
        write(crease, 0);
    }

    private void pressed(int crease) {
        Crease c = s.creases.get(crease);
        c.depth -= Math.min(c.depth, law("presses", crease, s.ruling));
        if (draw() < law("scorches", crease, s.ruling)) {
            c.how = 2;
            c.depth = 0;
            write(crease, 1);
        } else if (c.depth == 0) {
            for (int i : members(hanging(crease))) {
                if (there(i)) {
                    gone(i);
                }
            }
        }
        int[] p = s.persons.get(c.person);
        p[2] -= Math.min(p[2], law("price", crease, s.ruling));
    }

    int press(int crease) {
        if (!there(crease)) {
            return -1;
        }
        step();
        pressed(crease);
        return s.creases.get(crease).depth;
    }

    private boolean canBeBack(int crease) {
        if (!told(crease) || s.creases.get(crease).how != 1) {
            return false;
        }
        for (int other = 0; other < 12; other++) {
            if (s.ties.contains(crease * 12 + other) && !there(other)) {
                return false;
            }
        }
        return true;
    }

    private void isBack(int crease, int depth) {
        s.creases.get(crease).how = 0;
        s.creases.get(crease).depth = depth;
        write(crease, 2);
    }

    boolean pattern(int crease) {
        if (!canBeBack(crease)) {
            return false;
        }
        step();
        isBack(crease, s.creases.get(crease).told);
        return true;
    }

    private int damped(int n) {
        int back = 0;
        for (int i = 0; i < s.creases.size(); i++) {
            if (back < n && canBeBack(i)) {
                isBack(i, 1);
                back++;
            }
        }
        return back;
    }

    int damp(int n) {
        if (n < 1 || n > 9) {
            return -1;
        }
        step();
        return damped(n);
    }

    private void hourPasses() {
        for (Crease c : s.creases) {
            if (c.how == 0 && c.depth < c.told && s.hour % 10 == 9) {
                c.depth++;
            }
        }
        s.hour++;
    }

    private int hours(int n) {
        int passed = 0;
        for (int i = 0; i < n; i++) {
            if (s.hour < 9999) {
                step();
                hourPasses();
                passed++;
            }
        }
        return passed;
    }

    int hour(int n) {
        if (n < 1 || n > 60 || s.hour + n > 9999) {
            return -1;
        }
        hours(n);
        return s.hour;
    }

    int played(int text) {
        if (text < 0 || text >= s.texts.size()) {
            return -2;
        }
        List<List<String>> clauses = s.texts.get(text).clauses;
        for (int i = 0; i < clauses.size(); i++) {
            if (!done(clauses.get(i))) {
                return i;
            }
        }
        return -1;
    }

    private boolean done(List<String> clause) {
        int[] n = new int[clause.size()];
        for (int i = 0; i < n.length; i++) {
            n[i] = clause.get(i).matches("[0-9]+") ? Integer.parseInt(clause.get(i)) : 0;
        }
        switch (clause.get(0)) {
            case "person": return person(n[1], n[3]) >= 0;
            case "crease": return crease(n[1], n[3], n[5], 1) >= 0;
            case "tie": return tie(n[1], n[3]);
            case "heat": return heat(n[1]);
            case "press": return press(n[1]) >= 0;
            case "pattern": return pattern(n[1]);
            case "damp": return damp(n[1]) >= 0;
            case "hour": return hours(n[1]) == n[1];
            default: return true;
        }
    }

    int seasons(int seed, int n) {
        if (seed < 0 || seed > 9999 || n < 1 || n > 40) {
            return -1;
        }
        step();
        s.x = seed * 2 + 167;
        for (int i = 0; i < n; i++) {
            int x = s.x;
            draw();
            int crease = s.creases.isEmpty() ? -1 : x % s.creases.size();
            switch (x % 6) {
                case 3:
                    if (canBeBack(crease)) {
                        isBack(crease, s.creases.get(crease).told);
                    }
                    break;
                case 4:
                    damped(1);
                    break;
                case 5:
                    if (s.hour < 9999) {
                        hourPasses();
                    }
                    break;
                default:
                    if (there(crease)) {
                        pressed(crease);
                    }
            }
        }
        return s.hour;
    }

    int undo() {
        if (s.steps.isEmpty()) {
            return -1;
        }
        State ahead = s.steps.remove(s.steps.size() - 1);
        for (int i = 0; i < s.persons.size(); i++) {
            s.persons.get(i)[2] = i < ahead.persons.size() ? ahead.persons.get(i)[2] : s.persons.get(i)[1];
        }
        for (int i = 0; i < s.creases.size(); i++) {
            Crease c = s.creases.get(i);
            c.how = i < ahead.creases.size() ? ahead.creases.get(i).how : 0;
            c.depth = i < ahead.creases.size() ? ahead.creases.get(i).depth : c.told;
        }
        s.hour = ahead.hour;
        s.x = ahead.x;
        s.book = new ArrayList<>(ahead.book);
        return s.steps.size();
    }

    private boolean isPerson(int person) {
        return person >= 0 && person < s.persons.size();
    }

    private int bits(int person, boolean thereAlone) {
        int set = 0;
        for (int i = 0; i < s.creases.size(); i++) {
            if (s.creases.get(i).person == person && (!thereAlone || there(i))) {
                set |= 1 << i;
            }
        }
        return set;
    }

    private int worth(int set) {
        int sum = 0;
        for (int i : members(set)) {
            sum += s.creases.get(i).worth;
        }
        return sum;
    }

    int of(int person, int what) {
        if (!isPerson(person) || what < 0 || what > 5) {
            return -1000;
        }
        int[] answers = {s.persons.get(person)[0], s.persons.get(person)[2], bits(person, false),
            bits(person, true), worth(bits(person, true)), span(person)};
        return answers[what];
    }

    private int span(int person) {
        int longest = 0;
        for (int from = 0; from < 100; from++) {
            for (int to = from; to < 100; to++) {
                boolean free = true;
                for (int i : members(bits(person, true))) {
                    free &= s.creases.get(i).year < from || s.creases.get(i).year > to;
                }
                longest = free ? Math.max(longest, to - from + 1) : longest;
            }
        }
        return longest;
    }

    int ofCrease(int crease, int what) {
        if (!told(crease) || what < 0 || what > 8) {
            return -1000;
        }
        Crease c = s.creases.get(crease);
        int on = 0;
        for (int other = 0; other < 12; other++) {
            on |= s.ties.contains(crease * 12 + other) ? 1 << other : 0;
        }
        int[] answers = {c.person, c.year, c.depth, c.worth, c.how, on, law("presses", crease, s.ruling),
            law("scorches", crease, s.ruling), law("price", crease, s.ruling)};
        return answers[what];
    }

    int is(int what) {
        int[] answers = {s.hour, s.heat, s.x, s.creases.size()};
        return what < 0 || what > 3 ? -2 : answers[what];
    }

    int book(int i, int what) {
        if (i == -1) {
            return s.book.size();
        }
        return i < 0 || i >= s.book.size() || what < 0 || what > 2 ? -2 : s.book.get(i)[what];
    }

    int foretold(int n, int crease) {
        if (n < 1 || n > 60 || !told(crease)) {
            return -1;
        }
        State now = s;
        s = s.copy();
        for (int i = 0; i < n && s.hour < 9999; i++) {
            hourPasses();
        }
        int depth = s.creases.get(crease).depth;
        s = now;
        return depth;
    }

    private int told(int list, int most, boolean fits, int... row) {
        if (row[0] == -1) {
            s.lists.get(list).clear();
            return 0;
        }
        if (!fits || s.lists.get(list).size() == most) {
            return -2;
        }
        s.lists.get(list).add(row);
        return s.lists.get(list).size();
    }

    int want(int crease, int go) {
        return told(0, 8, told(crease) && go >= 0 && go <= 1, crease, go);
    }

    int board(int hours) {
        return told(1, 8, hours >= 1 && hours <= 99, hours);
    }

    int seam(int from, int to, int sum) {
        return told(2, 8, 0 <= from && from <= to && to <= 99 && sum >= 0 && sum <= 999, from, to, sum);
    }

    int heir(int weight) {
        return told(3, 6, weight >= 1 && weight <= 999, weight);
    }

    int offer(int price) {
        return told(4, 8, price >= 0 && price <= 999, price);
    }

    int priced(int crease, int price) {
        return told(5, 8, told(crease) && price >= 0 && price <= 9999, crease, price);
    }

    int cut(boolean worth) {
        int best = -1;
        for (int set = 0; set < 1 << s.creases.size(); set++) {
            if (canBeCut(set) && (best < 0 || worth(set) < worth(best)
                || worth(set) == worth(best) && members(set).size() < members(best).size())) {
                best = set;
            }
        }
        return best < 0 ? -1000 : worth ? worth(best) : best;
    }

    private boolean canBeCut(int set) {
        for (int i = 0; i < s.creases.size(); i++) {
            int last = -1;
            for (int[] wanted : s.lists.get(0)) {
                last = wanted[0] == i ? wanted[1] : last;
            }
            boolean in = (set >> i & 1) == 1;
            if (in && !there(i) || in && last == 0 || !in && there(i) && last == 1) {
                return false;
            }
        }
        for (int i : members(set)) {
            for (int j : members(hanging(i))) {
                if (there(j) && (set >> j & 1) == 0) {
                    return false;
                }
            }
        }
        return true;
    }

    int hands(int m, int i) {
        List<int[]> work = s.lists.get(1);
        if (m < 1 || m > 4 || i < -1 || i >= work.size()) {
            return -2;
        }
        int[] hand = new int[work.size()];
        int[] best = null;
        int soonest = Integer.MAX_VALUE;
        boolean more = true;
        while (more) {
            int[] ends = new int[m];
            for (int j = 0; j < hand.length; j++) {
                ends[hand[j]] += work.get(j)[0];
            }
            int end = Arrays.stream(ends).max().getAsInt();
            if (end < soonest) {
                soonest = end;
                best = hand.clone();
            }
            int at = hand.length - 1;
            while (at >= 0 && hand[at] == m - 1) {
                hand[at] = 0;
                at--;
            }
            more = at >= 0;
            if (more) {
                hand[at]++;
            }
        }
        return i == -1 ? soonest : best[i];
    }

    int flat(int person, int k, int w) {
        if (!isPerson(person) || k < 0 || k > 12 || w < 1 || w > 100) {
            return -1;
        }
        int best = 0;
        int all = bits(person, true);
        for (int set = 0; set < 4096; set++) {
            if ((set & ~all) != 0 || members(set).size() <= members(best).size()) {
                continue;
            }
            boolean fits = true;
            for (int from = 0; from + w <= 100; from++) {
                int in = 0;
                for (int i : members(set)) {
                    in += s.creases.get(i).year >= from && s.creases.get(i).year < from + w ? 1 : 0;
                }
                fits &= in <= k;
            }
            best = fits ? set : best;
        }
        return best;
    }

    private List<Integer> found(int person) {
        List<Integer> found = new ArrayList<>();
        int all = bits(person, false);
        for (int set = 0; set < 4096; set++) {
            boolean fits = (set & ~all) == 0;
            for (int i = 0; i < s.lists.get(2).size() && fits; i++) {
                int[] seam = s.lists.get(2).get(i);
                int sum = 0;
                for (int j : members(set)) {
                    Crease c = s.creases.get(j);
                    sum += c.year >= seam[0] && c.year <= seam[1] ? c.told : 0;
                }
                fits = sum == seam[2];
            }
            if (fits) {
                found.add(set);
            }
        }
        return found;
    }

    int sets(int person, int what) {
        if (!isPerson(person) || what < 0 || what > 2) {
            return -1;
        }
        List<Integer> found = found(person);
        int sure = bits(person, false);
        int never = sure;
        for (int set : found) {
            sure &= set;
            never &= ~set;
        }
        return what == 0 ? found.size() : found.isEmpty() ? 0 : what == 1 ? sure : never;
    }

    int next(int person) {
        if (!isPerson(person)) {
            return -1;
        }
        List<Integer> found = found(person);
        int best = -1;
        double nearest = 1e9;
        for (int i : members(bits(person, false))) {
            int in = 0;
            for (int set : found) {
                in += set >> i & 1;
            }
            double off = Math.abs(in - found.size() / 2.0);
            if (in > 0 && in < found.size() && off < nearest) {
                nearest = off;
                best = i;
            }
        }
        return best;
    }

    int laughs(int n, boolean turns, int i) {
        List<int[]> nephews = s.lists.get(3);
        if (n < 0 || n > 99 || i < 0 || i >= nephews.size()) {
            return -1;
        }
        int[] has = new int[nephews.size()];
        int all = nephews.stream().mapToInt(w -> w[0]).sum();
        int left = n;
        double[] over = new double[has.length];
        for (int j = 0; j < has.length && !turns; j++) {
            has[j] = n * nephews.get(j)[0] / all;
            over[j] = n * nephews.get(j)[0] % all;
            left -= has[j];
        }
        for (; left > 0; left--) {
            int to = 0;
            for (int j = 0; j < has.length; j++) {
                BigInteger its = BigInteger.valueOf(nephews.get(j)[0]).multiply(BigInteger.valueOf(has[to] + 1));
                BigInteger other = BigInteger.valueOf(nephews.get(to)[0]).multiply(BigInteger.valueOf(has[j] + 1));
                to = turns ? its.compareTo(other) > 0 ? j : to : over[j] > over[to] ? j : to;
            }
            has[to]++;
            over[to] = -1;
        }
        return has[i];
    }

    int price(boolean takings) {
        int best = 0;
        int most = 0;
        for (int price = 0; price < 1000; price++) {
            int sum = 0;
            for (int[] offer : s.lists.get(4)) {
                sum += offer[0] >= price ? price : 0;
            }
            if (sum > most) {
                most = sum;
                best = price;
            }
        }
        return takings ? most : best;
    }

    long wrongly(int n, int k, int a, int b, boolean low) {
        if (n < 1 || n > 9 || k < 0 || k > 9 || a < 0 || a > 10 || b < 0 || b > 10) {
            return -1;
        }
        BigInteger[] odds = new BigInteger[11];
        Arrays.fill(odds, BigInteger.ZERO);
        odds[0] = BigInteger.ONE;
        BigInteger wrong = BigInteger.valueOf(a * (10 - b));
        BigInteger right = BigInteger.valueOf(a * b + (10 - a) * 10);
        for (int i = 0; i < n; i++) {
            for (int j = 10; j >= 0; j--) {
                odds[j] = odds[j].multiply(right).add(j > 0 ? odds[j - 1].multiply(wrong) : BigInteger.ZERO);
            }
        }
        BigInteger upper = BigInteger.ZERO;
        for (int j = k; j <= 10; j++) {
            upper = upper.add(odds[j]);
        }
        BigInteger lower = BigInteger.valueOf(100).pow(n);
        BigInteger common = upper.gcd(lower);
        return (low ? lower : upper).divide(common).longValueExact();
    }

    int whose() {
        int set = 0;
        for (int text = 0; text < s.texts.size(); text++) {
            boolean all = true;
            for (int[] paid : s.lists.get(5)) {
                all &= law("price", paid[0], text) == paid[1];
            }
            set |= all ? 1 << text : 0;
        }
        return set;
    }

    int befell(int crease, int what) {
        if (crease != -1 && !told(crease) || what < 0 || what > 2) {
            return -2;
        }
        return (int) s.book.stream().filter(b -> (crease == -1 || b[1] == crease) && b[2] == what).count();
    }

    int eldest(int person) {
        int best = -1;
        for (int i : members(isPerson(person) ? bits(person, true) : 0)) {
            best = best < 0 || s.creases.get(i).year < s.creases.get(best).year ? i : best;
        }
        return best;
    }

    int blank() {
        int set = 0;
        for (int i = 0; i < s.persons.size(); i++) {
            set |= bits(i, true) == 0 ? 1 << i : 0;
        }
        return set;
    }

    int shared(int a, int b) {
        if (!isPerson(a) || !isPerson(b) || a == b) {
            return -1;
        }
        int set = 0;
        for (int i : members(bits(a, true))) {
            for (int j : members(bits(b, true))) {
                int ten = s.creases.get(i).year / 10;
                set |= ten == s.creases.get(j).year / 10 ? 1 << ten : 0;
            }
        }
        return set;
    }

    int image() {
        kept = s.copy();
        return s.hour;
    }

    int back() {
        s = kept.copy();
        return s.hour;
    }

    int about(int what) {
        int[] answers = {s.persons.size(), s.texts.size(), s.ruling, s.steps.size(), s.lists.get(0).size(),
            s.lists.get(1).size(), s.lists.get(2).size(), s.lists.get(3).size(), s.lists.get(4).size(), tape.length};
        return what < 0 || what > 9 ? -2 : answers[what];
    }
}
