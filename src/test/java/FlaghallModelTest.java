import java.util.ArrayList;
import java.util.List;

/**
 * Long runs of made-up calls, each answered by the program and by a slow model that is written from
 * the document in another way: it keeps what happened and looks for every answer from the start.
 */
public final class FlaghallModelTest {
    private static final int RUNS = 4000;
    private static final int CALLS = 512;
    private static final int SHOWN = 5;

    private static final String[] WORDS = {
        "b", "bob", "ba", "bb", "cab", "cb", "a", "ou", "xyz", "xayyoz", "lala", "ll", "tree", "tart", "abcdefgh",
    };
    private static final int[] PARTS = {0, 1, 16, 20, 31, 32, 33, 33, 33, 40, 64, 64};
    private static final int[] SHARES = {1, 1, 2, 5, 20, 31, 32, 33, 63, 64};
    private static final int[] MINUTES = {
        1, 1, 1, 2, 100, 720, 1440, 10080, 20159, 20160, 20161, 64800, 129599, 129600, 129601, 525600, 525601, 1000000,
    };
    private static final int[] AMOUNTS = {1, 2, 10, 99, 1000, 12345, 1000000000};
    private static final int[] PRICES = {1, 63, 64, 100, 999, 20000, 1000000001, 2000000000};
    private static final int[] WILD = {
        -1, Integer.MIN_VALUE, Integer.MAX_VALUE, 0, 1, 4, 6, 10, 60, 64, 65, 1000001, 1000000001, 2000000001,
    };

    private long seed;

    private FlaghallModelTest(long seed) {
        this.seed = seed * 7919 + 17;
    }

    public static void main(String[] args) {
        int wrong = 0;
        for (int run = 0; run < RUNS && wrong < SHOWN; run++) {
            if (!new FlaghallModelTest(run).agrees(run)) {
                wrong++;
            }
        }
        System.out.println(wrong == 0 ? "the model agrees in " + RUNS + " runs" : wrong + " runs and more are wrong");
        if (wrong != 0) {
            System.exit(1);
        }
    }

    private boolean agrees(int run) {
        Flaghall program = new Flaghall();
        Model model = new Model();
        StringBuilder calls = new StringBuilder();
        int patience = below(3);
        for (int i = 0; i < CALLS; i++) {
            long[] call = i < 24 ? beginning(i) : anyCall(model, patience);
            calls.append('\n').append(written(call));
            String got = answer(() -> askProgram(program, call));
            String due = answer(() -> askModel(model, call));
            if (!got.equals(due)) {
                System.out.println("run " + run + calls + " answered " + got + ", the model says " + due);
                return false;
            }
        }
        return true;
    }

    // ---- calls: a number for the method, and its arguments

    private int below(int bound) {
        seed = seed * 6364136223846793005L + 1442695040888963407L;
        return (int) ((seed >>> 33) % bound);
    }

    private int oneOf(int[] numbers) {
        return below(60) == 0 ? WILD[below(WILD.length)] : numbers[below(numbers.length)];
    }

    private int upTo(int count) {
        return below(60) == 0 || count == 0 ? WILD[below(WILD.length)] : below(count);
    }

    private long[] beginning(int i) {
        if (i < 8) {
            return below(5) < 2 ? new long[] {2} : new long[] {1, upTo(4)};
        }
        return i % 4 == 3 ? new long[] {5, below(8)} : new long[] {0, WORDS[below(WORDS.length)].charAt(0)};
    }

    private long[] anyCall(Model model, int patience) {
        int ship = upTo(model.ships.size());
        int party = upTo(model.parties.size());
        int mortgage = upTo(model.mortgages.size());
        int other = upTo(model.parties.size());
        switch (below(26)) {
            case 0: return new long[] {0, WORDS[below(WORDS.length)].charAt(0)};
            case 1: return below(12) == 0 ? new long[] {0, below(200)} : new long[] {5, party};
            case 2: return below(2) == 0 ? new long[] {1, upTo(4)} : new long[] {2};
            case 3: case 4: case 5: return new long[] {3, model.someCompany(party), other, oneOf(PARTS)};
            case 6: return new long[] {4, party};
            case 7: case 8: return new long[] {6, ship, party, other, oneOf(SHARES)};
            case 9: case 10: return new long[] {7, ship, model.likelyLand(ship, upTo(4))};
            case 11: return below(3) < patience ? new long[] {16, ship} : new long[] {8, ship, party};
            case 12: return below(3) < patience ? new long[] {19, party} : new long[] {9, ship, party, oneOf(AMOUNTS)};
            case 13: return below(3) < patience ? new long[] {18, ship, searched(model), upTo(5)}
                    : new long[] {10, mortgage, below(2)};
            case 14: return below(3) < patience ? new long[] {20, ship}
                    : new long[] {11, ship, party, upTo(4), oneOf(AMOUNTS)};
            case 15: return below(4) != 0 ? new long[] {17, mortgage} : new long[] {12, ship, party, oneOf(PRICES)};
            case 16: case 17: return new long[] {13, oneOf(MINUTES)};
            case 18: return new long[] {14, ship, party};
            case 19: return new long[] {15, ship, upTo(9)};
            case 20: return new long[] {16, ship};
            case 21: return new long[] {17, mortgage};
            case 22: case 23: return new long[] {18, ship, searched(model), upTo(5)};
            case 24: return new long[] {19, party};
            default: return new long[] {20, ship};
        }
    }

    private long searched(Model model) {
        if (below(30) == 0) {
            return model.minute + below(3) - 1;
        }
        if (below(60) == 0) {
            return below(2) == 0 ? Long.MIN_VALUE : Long.MAX_VALUE;
        }
        if (model.papers.isEmpty() || below(3) == 0) {
            return model.minute;
        }
        long minute = model.papers.get(below(model.papers.size())).minute - below(2);
        return Math.max(0, minute);
    }

    private static String written(long[] call) {
        String[] names = {
            "letter", "person", "company", "part", "land", "ship", "sell", "fly", "notice", "mortgage", "discharge",
            "lien", "court", "pass", "share", "sound", "flag", "rank", "search", "got", "liens",
        };
        StringBuilder text = new StringBuilder(names[(int) call[0]]);
        for (int i = 1; i < call.length; i++) {
            text.append(' ').append(call[i]);
        }
        return text.toString();
    }

    private interface Asked {
        long ask();
    }

    private static String answer(Asked asked) {
        try {
            return Long.toString(asked.ask());
        } catch (RuntimeException e) {
            return e.getClass().getSimpleName();
        }
    }

    private static long askProgram(Flaghall x, long[] c) {
        int a = c.length > 1 ? (int) c[1] : 0;
        int b = c.length > 2 ? (int) c[2] : 0;
        int d = c.length > 3 ? (int) c[3] : 0;
        int e = c.length > 4 ? (int) c[4] : 0;
        switch ((int) c[0]) {
            case 0: return x.letter((char) a);
            case 1: return x.person(a);
            case 2: return x.company();
            case 3: return x.part(a, b, d);
            case 4: return x.land(a);
            case 5: return x.ship(a);
            case 6: return x.sell(a, b, d, e);
            case 7: return x.fly(a, b);
            case 8: return x.notice(a, b);
            case 9: return x.mortgage(a, b, d);
            case 10: x.discharge(a, b == 1); return 0;
            case 11: return x.lien(a, b, d, e);
            case 12: return x.court(a, b, d);
            case 13: return x.pass(a);
            case 14: return x.share(a, b);
            case 15: return x.sound(a, b);
            case 16: return x.flag(a);
            case 17: return x.rank(a);
            case 18: return x.search(a, c[2], d);
            case 19: return x.got(a);
            default: return x.liens(a);
        }
    }

    private static long askModel(Model x, long[] c) {
        int a = c.length > 1 ? (int) c[1] : 0;
        int b = c.length > 2 ? (int) c[2] : 0;
        int d = c.length > 3 ? (int) c[3] : 0;
        int e = c.length > 4 ? (int) c[4] : 0;
        switch ((int) c[0]) {
            case 0: return x.letter((char) a);
            case 1: return x.person(a);
            case 2: return x.company();
            case 3: return x.part(a, b, d);
            case 4: return x.land(a);
            case 5: return x.ship(a);
            case 6: return x.sell(a, b, d, e);
            case 7: return x.fly(a, b);
            case 8: return x.notice(a, b);
            case 9: return x.mortgage(a, b, d);
            case 10: return x.discharge(a, b == 1);
            case 11: return x.lien(a, b, d, e);
            case 12: return x.court(a, b, d);
            case 13: return x.pass(a);
            case 14: return x.share(a, b);
            case 15: return x.sound(a, b);
            case 16: return x.flag(a);
            case 17: return x.rank(a);
            case 18: return x.search(a, c[2], d);
            case 19: return x.got(a);
            default: return x.liens(a);
        }
    }

    /** A person has a land, a company the number -1 there. */
    private record Party(int land, int[] parts) { }

    /** A paper; about is the mortgage that it enters, discharges or restores. */
    private record Paper(String kind, int ship, int party, long minute, int of, int amount, int about) { }

    /** That a ship's flag was flown (flown), or found to be right or not, in a minute. */
    private record Seen(long minute, int flown, boolean right) { }

    private static final class Ship {
        String sound;
        int[] shares = new int[10];
        /** What was seen of its flag since it was flown last. */
        List<Seen> seen = new ArrayList<>();
    }

    private static final class Model {
        List<Party> parties = new ArrayList<>();
        List<Ship> ships = new ArrayList<>();
        List<Paper> papers = new ArrayList<>();
        /** For each mortgage its paper's number, and its place. */
        List<int[]> mortgages = new ArrayList<>();
        long[] received = new long[10];
        String word = "";
        long minute = 0;

        // ---- what makes runs likely to be of interest

        int someCompany(int party) {
            for (int i = 0; i < parties.size(); i++) {
                int at = party < 0 ? party : (int) ((party + (long) i) % parties.size());
                if (at >= 0 && parties.get(at).land == -1) {
                    return party >= parties.size() ? party : at;
                }
            }
            return party;
        }

        int likelyLand(int ship, int land) {
            for (int l = 0; l < 4; l++) {
                if (ship >= 0 && ship < ships.size() && has(ships.get(ship).shares, l, 1)) {
                    return l;
                }
            }
            return land;
        }

        // ---- arguments

        static void index(boolean holds) {
            if (!holds) {
                throw new IndexOutOfBoundsException();
            }
        }

        static void argument(boolean holds) {
            if (!holds) {
                throw new IllegalArgumentException();
            }
        }

        static void state(boolean holds) {
            if (!holds) {
                throw new IllegalStateException();
            }
        }

        static boolean in(int number, List<?> list) {
            return number >= 0 && number < list.size();
        }

        // ---- parties

        int letter(char letter) {
            argument("abcdefghijklmnopqrstuvwxyz".indexOf(letter) >= 0);
            state(word.length() < 8);
            word += letter;
            return word.length();
        }

        int person(int land) {
            index(land >= 0 && land <= 3);
            state(parties.size() < 10);
            parties.add(new Party(land, new int[10]));
            return parties.size() - 1;
        }

        int company() {
            state(parties.size() < 10);
            parties.add(new Party(-1, new int[10]));
            return parties.size() - 1;
        }

        int part(int company, int party, int many) {
            index(in(company, parties) && in(party, parties));
            argument(many >= 0 && many <= 64);
            state(parties.get(company).land == -1);
            int[] parts = parties.get(company).parts;
            int sum = many;
            for (int i = 0; i < 10; i++) {
                sum += i == party ? 0 : parts[i];
            }
            state(sum <= 64);
            int had = parts[party];
            parts[party] = many;
            for (Ship ship : ships) {
                see(ship);
            }
            return had;
        }

        /** Whether a party is of a land, being the one that is come to as the company of that depth. */
        boolean isOf(int party, int land, int depth) {
            Party asked = parties.get(party);
            if (asked.land != -1) {
                return asked.land == land;
            }
            return depth <= 5 && has(asked.parts, land, depth + 1);
        }

        boolean has(int[] held, int land, int depth) {
            int sum = 0;
            for (int i = 0; i < parties.size(); i++) {
                if (held[i] > 0 && isOf(i, land, depth)) {
                    sum += held[i];
                }
            }
            return sum > 32;
        }

        int land(int party) {
            index(in(party, parties));
            for (int l = 0; l < 4; l++) {
                if (isOf(party, l, 1)) {
                    return l;
                }
            }
            return -1;
        }

        // ---- ships, flags

        int ship(int owner) {
            index(in(owner, parties));
            state(!word.isEmpty() && ships.size() < 6);
            String sound = word.replaceAll("[aeiou]", "").replaceAll("(.)\\1+", "$1");
            word = "";
            for (Ship other : ships) {
                if (other.sound.equals(sound)) {
                    return -1;
                }
            }
            Ship built = new Ship();
            built.sound = sound;
            built.shares[owner] = 64;
            ships.add(built);
            return ships.size() - 1;
        }

        int sell(int ship, int from, int to, int many) {
            index(in(ship, ships) && in(from, parties) && in(to, parties));
            argument(from != to && many >= 1 && many <= 64);
            int[] shares = ships.get(ship).shares;
            state(shares[from] >= many);
            shares[from] -= many;
            shares[to] += many;
            see(ships.get(ship));
            return shares[to];
        }

        void see(Ship ship) {
            if (!ship.seen.isEmpty()) {
                int flown = ship.seen.get(0).flown;
                ship.seen.add(new Seen(minute, flown, has(ship.shares, flown, 1)));
            }
        }

        int fly(int ship, int land) {
            index(in(ship, ships) && land >= 0 && land <= 3);
            state(has(ships.get(ship).shares, land, 1));
            int before = flag(ship);
            ships.get(ship).seen.clear();
            ships.get(ship).seen.add(new Seen(minute, land, true));
            return before;
        }

        int flag(int ship) {
            index(in(ship, ships));
            List<Seen> seen = ships.get(ship).seen;
            long began = Long.MAX_VALUE;
            for (int i = seen.size() - 1; i >= 0 && !seen.get(i).right; i--) {
                began = seen.get(i).minute;
            }
            boolean lost = began != Long.MAX_VALUE && minute >= began + 90 * 24 * 60;
            return seen.isEmpty() || lost ? -1 : seen.get(0).flown;
        }

        // ---- papers

        int enter(Paper paper) {
            papers.add(paper);
            return papers.size();
        }

        int notice(int ship, int party) {
            index(in(ship, ships) && in(party, parties));
            state(papers.size() < 60);
            return enter(new Paper("notice", ship, party, minute, 0, 0, -1));
        }

        int mortgage(int ship, int party, int amount) {
            index(in(ship, ships) && in(party, parties));
            argument(amount >= 1 && amount <= 1000000000);
            state(papers.size() < 60);
            int place = papers.size();
            for (int i = papers.size() - 1; i >= 0; i--) {
                Paper paper = papers.get(i);
                boolean holds = paper.kind.equals("notice") && paper.ship == ship && paper.party == party
                        && paper.minute + 14 * 24 * 60 >= minute && !overAt(i, Long.MAX_VALUE);
                for (int[] mortgage : mortgages) {
                    holds = holds && mortgage[1] != i;
                }
                place = holds ? i : place;
            }
            mortgages.add(new int[] {papers.size(), place});
            enter(new Paper("mortgage", ship, party, minute, 0, amount, mortgages.size() - 1));
            return mortgages.size() - 1;
        }

        /** Whether a paper was over by a sale at the end of a minute. */
        boolean overAt(int number, long end) {
            for (int i = number + 1; i < papers.size(); i++) {
                Paper later = papers.get(i);
                if (later.kind.equals("court") && later.ship == papers.get(number).ship && later.minute <= end) {
                    return true;
                }
            }
            return false;
        }

        boolean dischargedAt(int mortgage, long end) {
            boolean is = false;
            for (Paper paper : papers) {
                if (paper.minute <= end && paper.about == mortgage && !paper.kind.equals("mortgage")) {
                    is = paper.kind.equals("discharge");
                }
            }
            return is;
        }

        int discharge(int mortgage, boolean is) {
            index(in(mortgage, mortgages));
            state(papers.size() < 60);
            state(!overAt(mortgages.get(mortgage)[0], Long.MAX_VALUE));
            state(dischargedAt(mortgage, Long.MAX_VALUE) != is);
            int ship = papers.get(mortgages.get(mortgage)[0]).ship;
            enter(new Paper(is ? "discharge" : "restoring", ship, -1, minute, 0, 0, mortgage));
            return 0;
        }

        int lien(int ship, int party, int of, int amount) {
            index(in(ship, ships) && in(party, parties));
            argument(of >= 0 && of <= 3 && amount >= 1 && amount <= 1000000000);
            state(papers.size() < 60);
            return enter(new Paper("lien", ship, party, minute, of, amount, -1));
        }

        boolean goodLien(int number, int ship) {
            Paper paper = papers.get(number);
            return paper.kind.equals("lien") && paper.ship == ship && !overAt(number, Long.MAX_VALUE)
                    && paper.minute + 365 * 24 * 60 >= minute;
        }

        long court(int ship, int buyer, int price) {
            index(in(ship, ships) && in(buyer, parties));
            argument(price >= 1 && price <= 2000000000);
            state(papers.size() < 60);
            List<int[]> liens = new ArrayList<>();
            for (int i = 0; i < papers.size(); i++) {
                if (goodLien(i, ship)) {
                    liens.add(new int[] {papers.get(i).of, -i});
                }
            }
            liens.sort((a, b) -> a[0] != b[0] ? a[0] - b[0] : a[1] - b[1]);
            List<Paper> claims = new ArrayList<>();
            for (int[] lien : liens) {
                claims.add(papers.get(-lien[1]));
            }
            for (int mortgage : inForce(ship, minute)) {
                claims.add(papers.get(mortgages.get(mortgage)[0]));
            }
            long left = price;
            for (Paper claim : claims) {
                long paid = claim.amount < left ? claim.amount : left;
                received[claim.party] += paid;
                left -= paid;
            }
            long rest = left;
            Ship sold = ships.get(ship);
            for (int i = 0; i < 10; i++) {
                long paid = left * sold.shares[i] / 64;
                received[i] += paid;
                rest -= paid;
            }
            enter(new Paper("court", ship, buyer, minute, 0, price, -1));
            sold.shares = new int[10];
            sold.shares[buyer] = 64;
            sold.seen.clear();
            return rest;
        }

        long pass(int minutes) {
            argument(minutes >= 1 && minutes <= 1000000);
            minute += minutes;
            return minute;
        }

        // ---- questions

        int share(int ship, int party) {
            index(in(ship, ships) && in(party, parties));
            return ships.get(ship).shares[party];
        }

        char sound(int ship, int place) {
            index(in(ship, ships) && place >= 0);
            String sound = ships.get(ship).sound;
            return place < sound.length() ? sound.charAt(place) : ' ';
        }

        /** The mortgages of a ship by rank, at the end of a minute. */
        List<Integer> inForce(int ship, long end) {
            List<Integer> found = new ArrayList<>();
            for (int i = 0; i < mortgages.size(); i++) {
                int number = mortgages.get(i)[0];
                Paper paper = papers.get(number);
                if (paper.ship == ship && paper.minute <= end && !overAt(number, end) && !dischargedAt(i, end)) {
                    found.add(i);
                }
            }
            found.sort((a, b) -> mortgages.get(a)[1] - mortgages.get(b)[1]);
            return found;
        }

        int rank(int mortgage) {
            index(in(mortgage, mortgages));
            return inForce(papers.get(mortgages.get(mortgage)[0]).ship, minute).indexOf(mortgage);
        }

        int search(int ship, long asked, int rank) {
            index(in(ship, ships) && rank >= 0);
            argument(asked >= 0 && asked <= minute);
            List<Integer> found = inForce(ship, asked);
            return rank < found.size() ? found.get(rank) : -1;
        }

        long got(int party) {
            index(in(party, parties));
            return received[party];
        }

        int liens(int ship) {
            index(in(ship, ships));
            int count = 0;
            for (int i = 0; i < papers.size(); i++) {
                count += goodLien(i, ship) ? 1 : 0;
            }
            return count;
        }
    }
}
