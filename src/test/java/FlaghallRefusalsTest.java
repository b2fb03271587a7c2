import java.util.ArrayList;
import java.util.List;

/**
 * "If several apply, the one that is named first in the throws clause is thrown; a call that throws
 * changes nothing." Each refused call is made on one of two objects of the same past; all that can be
 * asked and done afterwards must be answered alike by both.
 */
public final class FlaghallRefusalsTest {
    private static final Class<?> INDEX = IndexOutOfBoundsException.class;
    private static final Class<?> ARGUMENT = IllegalArgumentException.class;
    private static final Class<?> STATE = IllegalStateException.class;

    private static final int MIN = Integer.MIN_VALUE;
    private static final int MAX = Integer.MAX_VALUE;
    private static final int MOST_AMOUNT = 1000000000;
    private static final int MOST_PRICE = 2000000000;
    private static final int[] WILD = {MIN, MIN + 1, -65, -2, -1, 60, 64, 65, 1000001, MAX - 1, MAX};

    /** Nothing yet. */
    private static final int EMPTY = 0;
    /** A person and a company, the word "b", and no ship. */
    private static final int LONE = 1;
    /** A bit of everything; the word "xa". */
    private static final int BUSY = 2;
    /** The same, with no word. */
    private static final int UNTYPED = 3;
    /** 10 parties, 6 ships, 60 papers, a word of 8. */
    private static final int FULL = 4;
    /** The same, with no word. */
    private static final int FULL_UNTYPED = 5;
    private static final int WORLDS = 6;

    private static final int[] PARTIES_OF = {0, 2, 5, 5, 10, 10};
    private static final int[] SHIPS_OF = {0, 0, 3, 3, 6, 6};
    private static final int[] MORTGAGES_OF = {0, 0, 5, 5, 5, 5};
    private static final int[] NOW_OF = {0, 0, 150, 150, 150, 150};

    private static int wrong = 0;
    private static int tried = 0;

    private interface Call {
        long on(Flaghall x);
    }

    public static void main(String[] args) {
        theWorldsAreAsTold();
        for (int world = 0; world < WORLDS; world++) {
            badLetters(world);
            badLands(world);
            badParties(world);
            badShips(world);
            badMortgages(world);
            badPlaces(world);
            badNumbers(world);
        }
        statesOfParties();
        statesOfShips();
        statesOfPapers();
        statesOfAFullBook();
        System.out.println(wrong == 0 ? tried + " refused calls changed nothing" : wrong + " answers are wrong");
        if (wrong != 0) {
            System.exit(1);
        }
    }

    // ---- worlds

    private static void type(Flaghall x, String word) {
        for (int i = 0; i < word.length(); i++) {
            x.letter(word.charAt(i));
        }
    }

    private static Flaghall world(int world) {
        Flaghall x = new Flaghall();
        if (world == LONE) {
            x.person(0);
            x.company();
            type(x, "b");
        }
        if (world >= BUSY) {
            makeBusy(x);
        }
        if (world >= FULL) {
            fill(x);
        }
        if (world == BUSY) {
            type(x, "xa");
        }
        if (world == FULL) {
            type(x, "xyzxyzxy");
        }
        return x;
    }

    private static void makeBusy(Flaghall x) {
        x.person(0);
        x.person(1);
        x.company();
        x.company();
        x.person(3);
        x.part(2, 0, 40);
        x.part(2, 1, 24);
        x.part(3, 2, 33);
        type(x, "bo");
        x.ship(3);
        type(x, "cup");
        x.ship(1);
        type(x, "dd");
        x.ship(0);
        x.fly(0, 0);
        x.fly(1, 1);
        x.fly(2, 0);
        x.pass(100);
        x.sell(1, 1, 0, 32);
        x.notice(0, 1);
        x.notice(0, 4);
        x.notice(1, 1);
        x.mortgage(0, 0, 500);
        x.mortgage(0, 1, 300);
        x.mortgage(1, 0, 10);
        x.discharge(0, true);
        x.lien(0, 4, 1, 20);
        x.lien(0, 0, 3, 10);
        x.lien(1, 1, 2, 5);
        x.mortgage(2, 0, 9);
        x.mortgage(2, 1, 8);
        x.discharge(4, true);
        x.court(2, 4, 640);
        x.pass(50);
        x.lien(1, 4, 0, 3);
    }

    private static void fill(Flaghall x) {
        for (int i = 5; i < 10; i++) {
            x.person(i % 4);
        }
        for (char name = 'f'; name <= 'h'; name++) {
            x.letter(name);
            x.ship(name - 'a');
        }
        for (int paper = 16; paper <= 60; paper++) {
            x.lien(paper % 6, paper % 10, paper % 4, paper);
        }
    }

    /** What the tables here say of the worlds is so. */
    private static void theWorldsAreAsTold() {
        for (int world = 0; world < WORLDS; world++) {
            Flaghall x = world(world);
            int parties = count(i -> x.land(i));
            int ships = count(i -> x.flag(i));
            int mortgages = count(i -> x.rank(i));
            check("parties of " + world, parties == PARTIES_OF[world]);
            check("ships of " + world, ships == SHIPS_OF[world]);
            check("mortgages of " + world, mortgages == MORTGAGES_OF[world]);
            check("minute of " + world, x.pass(1) == NOW_OF[world] + 1);
        }
        check("60 papers", refusal(world(FULL), y -> y.notice(0, 0)) == STATE);
    }

    private interface Numbered {
        int of(int number);
    }

    private static int count(Numbered things) {
        for (int i = 0; i < 100; i++) {
            try {
                things.of(i);
            } catch (IndexOutOfBoundsException e) {
                return i;
            }
        }
        return 100;
    }

    private static void check(String what, boolean holds) {
        if (!holds) {
            wrong++;
            System.out.println("wrong: " + what);
        }
    }

    // ---- one refused call

    private static Class<?> refusal(Flaghall x, Call call) {
        try {
            call.on(x);
        } catch (RuntimeException e) {
            return e.getClass();
        }
        return null;
    }

    /** The call throws that, again and again, and leaves all as it was. */
    private static void refuse(int world, Class<?> want, String what, Call call) {
        tried++;
        for (int kind = 0; kind <= 1; kind++) {
            Flaghall asked = world(world);
            Flaghall twin = world(world);
            for (int i = 0; i < 2; i++) {
                Class<?> got = refusal(asked, call);
                if (got != want) {
                    wrong++;
                    System.out.println(what + " in world " + world + " threw " + got + ", due is " + want);
                    return;
                }
            }
            Answers after = new Answers(asked);
            Answers due = new Answers(twin);
            if (kind == 0) {
                after.askAtOnce();
                due.askAtOnce();
            } else {
                after.askInTime();
                due.askInTime();
            }
            String difference = after.difference(due);
            if (!difference.isEmpty()) {
                wrong++;
                System.out.println(what + " in world " + world + " changed " + difference);
                return;
            }
        }
    }

    /** What an object answers to all that can be asked of it, and done with it. */
    private static final class Answers {
        private final Flaghall x;
        private final List<String> answers = new ArrayList<>();
        private int calls;

        Answers(Flaghall x) {
            this.x = x;
        }

        private void ask(String what, Call call) {
            String answer;
            try {
                answer = Long.toString(call.on(x));
            } catch (RuntimeException e) {
                answer = e.getClass().getSimpleName();
            }
            calls++;
            answers.add(what + " = " + answer);
        }

        String difference(Answers due) {
            if (calls > 350) {
                return "the tally of calls: " + calls + " are too many";
            }
            for (int i = 0; i < answers.size(); i++) {
                if (!answers.get(i).equals(due.answers.get(i))) {
                    return answers.get(i) + ", due is " + due.answers.get(i);
                }
            }
            return "";
        }

        void askAtOnce() {
            questions();
            ask("letter", y -> y.letter('q'));
            ask("ship", y -> y.ship(0));
            sounds();
            ask("letter again", y -> y.letter('w'));
            ask("person", y -> y.person(2));
            ask("company", y -> y.company());
            papers();
            parts();
        }

        /** Asks in the minutes in which a notice of minute 100, a grace and liens come to their ends. */
        void askInTime() {
            ask("pass to 14 days", y -> y.pass(20110));
            ask("mortgage by a notice of 14 days", y -> y.mortgage(0, 4, 1));
            ask("its rank", y -> y.rank(5));
            ask("pass", y -> y.pass(1));
            ask("mortgage by a notice too old", y -> y.mortgage(1, 1, 1));
            ask("its rank", y -> y.rank(6));
            ask("pass to 90 days less a minute", y -> y.pass(109438));
            flags();
            ask("pass to 90 days", y -> y.pass(1));
            flags();
            ask("sell back", y -> y.sell(1, 0, 1, 1));
            flags();
            ask("fly 0", y -> y.fly(0, 0));
            ask("fly 1", y -> y.fly(1, 1));
            ask("fly 2", y -> y.fly(2, 3));
            ask("pass to 365 days", y -> y.pass(396000));
            liens();
            ask("pass", y -> y.pass(1));
            liens();
            ask("pass to 365 days of the rest", y -> y.pass(49));
            liens();
            ask("pass", y -> y.pass(1));
            liens();
        }

        private void questions() {
            for (int i = 0; i < 10; i++) {
                int party = i;
                ask("land " + i, y -> y.land(party));
                ask("got " + i, y -> y.got(party));
                for (int j = 0; j < 6; j++) {
                    int ship = j;
                    ask("share " + j + " " + i, y -> y.share(ship, party));
                }
            }
            for (int i = 0; i < 6; i++) {
                int mortgage = i;
                ask("rank " + i, y -> y.rank(mortgage));
            }
            flags();
            liens();
            ask("pass", y -> y.pass(1));
            for (int ship = 0; ship < 3; ship++) {
                for (int minute : new int[] {0, 1, 100, 150, 151}) {
                    for (int rank = 0; rank < 2; rank++) {
                        int[] asked = {ship, minute, rank};
                        ask("search " + ship + " " + minute + " " + rank, y -> y.search(asked[0], asked[1], asked[2]));
                    }
                }
            }
        }

        private void flags() {
            for (int i = 0; i < 6; i++) {
                int ship = i;
                ask("flag " + i, y -> y.flag(ship));
            }
        }

        private void liens() {
            for (int i = 0; i < 6; i++) {
                int ship = i;
                ask("liens " + i, y -> y.liens(ship));
            }
        }

        private void sounds() {
            for (int i = 0; i < 6; i++) {
                for (int j = 0; j < 4; j++) {
                    int ship = i;
                    int place = j;
                    ask("sound " + i + " " + j, y -> y.sound(ship, place));
                }
            }
        }

        private void papers() {
            ask("notice", y -> y.notice(0, 3));
            ask("mortgage of one with a notice", y -> y.mortgage(0, 4, 7));
            ask("mortgage of one whose notice has one", y -> y.mortgage(0, 1, 7));
            ask("mortgage on the other ship", y -> y.mortgage(1, 1, 7));
            ask("restoring", y -> discharge(y, 0, false));
            ask("discharge", y -> discharge(y, 1, true));
            ask("discharge of what is over", y -> discharge(y, 3, true));
            ask("restoring of what is over", y -> discharge(y, 4, false));
            for (int i = 0; i < 9; i++) {
                int mortgage = i;
                ask("rank " + i + " then", y -> y.rank(mortgage));
            }
            ask("sale 0", y -> y.court(0, 0, 1999999999));
            ask("sale 1", y -> y.court(1, 0, 20));
            ask("sale 2", y -> y.court(2, 0, 1001));
            for (int i = 0; i < 10; i++) {
                int party = i;
                ask("got " + i + " then", y -> y.got(party));
            }
        }

        private void parts() {
            for (int i = 0; i < 10; i++) {
                int party = i;
                ask("parts of 2 for " + i, y -> y.part(2, party, 0));
                ask("parts of 3 for " + i, y -> y.part(3, party, 0));
            }
        }
    }

    private static long discharge(Flaghall x, int mortgage, boolean is) {
        x.discharge(mortgage, is);
        return 0;
    }

    // ---- arguments that are bad in every world, whatever else applies

    private static void badLetters(int world) {
        char[] signs = {0, ' ', '1', 'A', 'Z', 'a' - 1, 'z' + 1, 'a' + 256, 65535};
        for (char sign : signs) {
            refuse(world, ARGUMENT, "letter " + (int) sign, x -> x.letter(sign));
        }
    }

    private static void badLands(int world) {
        int ship = SHIPS_OF[world] - 1;
        for (int land : new int[] {MIN, -1, 4, 5, MAX}) {
            refuse(world, INDEX, "person of land " + land, x -> x.person(land));
            refuse(world, INDEX, "fly land " + land, x -> x.fly(ship, land));
        }
    }

    /** The numbers behind and before those of a count. */
    private static int[] outside(int count) {
        return new int[] {MIN, -1, count, count + 1, MAX};
    }

    private static void badParties(int world) {
        int good = PARTIES_OF[world] - 1;
        int ship = SHIPS_OF[world] - 1;
        for (int bad : outside(PARTIES_OF[world])) {
            refuse(world, INDEX, "land of party " + bad, x -> x.land(bad));
            refuse(world, INDEX, "got of party " + bad, x -> x.got(bad));
            refuse(world, INDEX, "ship of party " + bad, x -> x.ship(bad));
            refuse(world, INDEX, "share of party " + bad, x -> x.share(ship, bad));
            refuse(world, INDEX, "notice of party " + bad, x -> x.notice(ship, bad));
            for (int many : new int[] {-1, 0, 1, 64, 65}) {
                refuse(world, INDEX, "part of company " + bad, x -> x.part(bad, good, many));
                refuse(world, INDEX, "part for party " + bad, x -> x.part(good, bad, many));
                refuse(world, INDEX, "part for party " + bad + " of a person", x -> x.part(0, bad, many));
                refuse(world, INDEX, "part of both " + bad, x -> x.part(bad, bad, many));
                refuse(world, INDEX, "sell from " + bad, x -> x.sell(ship, bad, good, many));
                refuse(world, INDEX, "sell to " + bad, x -> x.sell(ship, good, bad, many));
                refuse(world, INDEX, "sell to oneself " + bad, x -> x.sell(ship, bad, bad, many));
            }
            for (int amount : new int[] {0, 1, MOST_AMOUNT + 1, MAX}) {
                refuse(world, INDEX, "mortgage of party " + bad, x -> x.mortgage(ship, bad, amount));
                refuse(world, INDEX, "lien of party " + bad, x -> x.lien(ship, bad, 0, amount));
                refuse(world, INDEX, "lien of party " + bad + " of no class", x -> x.lien(ship, bad, 4, amount));
                refuse(world, INDEX, "sale to party " + bad, x -> x.court(ship, bad, amount));
            }
        }
    }

    private static void badShips(int world) {
        int party = PARTIES_OF[world] - 1;
        int now = NOW_OF[world];
        for (int bad : outside(SHIPS_OF[world])) {
            refuse(world, INDEX, "flag of ship " + bad, x -> x.flag(bad));
            refuse(world, INDEX, "liens of ship " + bad, x -> x.liens(bad));
            refuse(world, INDEX, "share of ship " + bad, x -> x.share(bad, party));
            refuse(world, INDEX, "share of ship and party " + bad, x -> x.share(bad, bad));
            refuse(world, INDEX, "sound of ship " + bad, x -> x.sound(bad, 0));
            refuse(world, INDEX, "notice for ship " + bad, x -> x.notice(bad, party));
            refuse(world, INDEX, "fly ship " + bad, x -> x.fly(bad, 0));
            refuse(world, INDEX, "fly ship " + bad + " a land that is not", x -> x.fly(bad, 4));
            for (int many : new int[] {0, 1, 64, 65}) {
                refuse(world, INDEX, "sell ship " + bad, x -> x.sell(bad, 0, party, many));
                refuse(world, INDEX, "sell ship " + bad + " to oneself", x -> x.sell(bad, party, party, many));
            }
            for (int amount : new int[] {0, 1, MOST_AMOUNT + 1, MAX}) {
                refuse(world, INDEX, "mortgage on ship " + bad, x -> x.mortgage(bad, party, amount));
                refuse(world, INDEX, "lien on ship " + bad, x -> x.lien(bad, party, 3, amount));
                refuse(world, INDEX, "lien on ship " + bad + " of no class", x -> x.lien(bad, party, -1, amount));
                refuse(world, INDEX, "sale of ship " + bad, x -> x.court(bad, party, amount));
            }
            for (int minute : new int[] {-1, 0, now, now + 1}) {
                refuse(world, INDEX, "search of ship " + bad, x -> x.search(bad, minute, 0));
                refuse(world, INDEX, "search of ship " + bad + " by no rank", x -> x.search(bad, minute, -1));
            }
        }
    }

    private static void badMortgages(int world) {
        for (int bad : outside(MORTGAGES_OF[world])) {
            refuse(world, INDEX, "rank of " + bad, x -> x.rank(bad));
            refuse(world, INDEX, "discharge of " + bad, x -> discharge(x, bad, true));
            refuse(world, INDEX, "restoring of " + bad, x -> discharge(x, bad, false));
        }
    }

    private static void badPlaces(int world) {
        int ship = SHIPS_OF[world] - 1;
        for (int bad : new int[] {MIN, -2, -1}) {
            refuse(world, INDEX, "sound at " + bad, x -> x.sound(ship, bad));
            for (long minute : new long[] {Long.MIN_VALUE, -1, 0, NOW_OF[world], NOW_OF[world] + 1, Long.MAX_VALUE}) {
                refuse(world, INDEX, "rank " + bad + " in " + minute, x -> x.search(ship, minute, bad));
            }
        }
    }

    /** Numbers out of range, of parties and ships that are; also where a state is wrong as well. */
    private static void badNumbers(int world) {
        for (int bad : new int[] {MIN, -1, 0, 1000001, MAX}) {
            refuse(world, ARGUMENT, "pass " + bad, x -> x.pass(bad));
        }
        for (int bad : WILD) {
            if (PARTIES_OF[world] > 0 && (bad < 0 || bad > 64)) {
                int last = PARTIES_OF[world] - 1;
                refuse(world, ARGUMENT, "parts " + bad + " of a person", x -> x.part(0, last, bad));
                refuse(world, ARGUMENT, "parts " + bad + " of a person, its own", x -> x.part(0, 0, bad));
                refuse(world, ARGUMENT, "parts " + bad, x -> x.part(world == LONE ? 1 : 2, 0, bad));
            }
        }
        for (int ship = 0; ship < SHIPS_OF[world]; ship++) {
            badNumbersOfShip(world, ship);
        }
    }

    private static void badNumbersOfShip(int world, int ship) {
        int last = PARTIES_OF[world] - 1;
        for (int bad : new int[] {MIN, -1, 0, 65, MAX}) {
            refuse(world, ARGUMENT, "sell " + bad, x -> x.sell(ship, 0, last, bad));
            refuse(world, ARGUMENT, "sell " + bad + " back", x -> x.sell(ship, last, 0, bad));
            refuse(world, ARGUMENT, "sell " + bad + " to oneself", x -> x.sell(ship, last, last, bad));
        }
        for (int many : new int[] {1, 32, 64}) {
            for (int party = 0; party <= last; party++) {
                int both = party;
                refuse(world, ARGUMENT, "sell " + many + " to oneself", x -> x.sell(ship, both, both, many));
            }
        }
        for (int bad : new int[] {MIN, -1, 0, MOST_AMOUNT + 1, MAX}) {
            refuse(world, ARGUMENT, "mortgage of " + bad, x -> x.mortgage(ship, last, bad));
            refuse(world, ARGUMENT, "lien of " + bad, x -> x.lien(ship, last, 3, bad));
            refuse(world, ARGUMENT, "lien of " + bad + " of no class", x -> x.lien(ship, 0, 4, bad));
        }
        for (int bad : new int[] {MIN, -1, 4, MAX}) {
            refuse(world, ARGUMENT, "lien of class " + bad, x -> x.lien(ship, last, bad, 1));
        }
        for (int bad : new int[] {MIN, -1, 0, MOST_PRICE + 1, MAX}) {
            refuse(world, ARGUMENT, "price " + bad, x -> x.court(ship, last, bad));
        }
        for (long bad : new long[] {Long.MIN_VALUE, -1, NOW_OF[world] + 1, 1L << 32, Long.MAX_VALUE}) {
            refuse(world, ARGUMENT, "search in " + bad, x -> x.search(ship, bad, 0));
            refuse(world, ARGUMENT, "search in " + bad + " far", x -> x.search(ship, bad, MAX));
        }
    }

    // ---- states

    private static void statesOfParties() {
        for (int full = FULL; full <= FULL_UNTYPED; full++) {
            for (int land = 0; land <= 3; land++) {
                int of = land;
                refuse(full, STATE, "an eleventh person", x -> x.person(of));
            }
            refuse(full, STATE, "an eleventh company", x -> x.company());
        }
        for (char letter = 'a'; letter <= 'z'; letter++) {
            char typed = letter;
            refuse(FULL, STATE, "a ninth letter", x -> x.letter(typed));
        }
        for (int world : new int[] {LONE, BUSY, FULL}) {
            for (int many : new int[] {0, 1, 64}) {
                refuse(world, STATE, "parts of a person", x -> x.part(0, 1, many));
                refuse(world, STATE, "parts of a person, its own", x -> x.part(0, 0, many));
            }
        }
        for (int world : new int[] {BUSY, FULL}) {
            refuse(world, STATE, "one part more for the first", x -> x.part(2, 0, 41));
            refuse(world, STATE, "one part more for the second", x -> x.part(2, 1, 25));
            refuse(world, STATE, "one part more for the last", x -> x.part(2, 4, 1));
            refuse(world, STATE, "one part more of its own", x -> x.part(2, 2, 1));
            refuse(world, STATE, "64 parts for the first", x -> x.part(2, 0, 64));
            refuse(world, STATE, "one part too many of the other", x -> x.part(3, 0, 32));
            refuse(world, STATE, "parts of a person that is behind", x -> x.part(4, 2, 33));
        }
    }

    private static void statesOfShips() {
        refuse(UNTYPED, STATE, "a ship with nothing typed", x -> x.ship(0));
        refuse(FULL, STATE, "a seventh ship", x -> x.ship(0));
        refuse(FULL_UNTYPED, STATE, "a seventh ship with nothing typed", x -> x.ship(9));
        for (int world : new int[] {BUSY, FULL}) {
            refuse(world, STATE, "sell one of none", x -> x.sell(0, 0, 1, 1));
            refuse(world, STATE, "sell 64 of none", x -> x.sell(0, 4, 3, 64));
            refuse(world, STATE, "sell 33 of 32", x -> x.sell(1, 1, 0, 33));
            refuse(world, STATE, "sell 33 of 32 back", x -> x.sell(1, 0, 1, 33));
            refuse(world, STATE, "sell what was sold by court", x -> x.sell(2, 0, 4, 1));
            for (int land = 0; land <= 3; land++) {
                int flown = land;
                if (land != 0) {
                    refuse(world, STATE, "fly land " + land, x -> x.fly(0, flown));
                }
                refuse(world, STATE, "fly land " + land + " by halves", x -> x.fly(1, flown));
                if (land != 3) {
                    refuse(world, STATE, "fly land " + land + ", the old owner's", x -> x.fly(2, flown));
                }
            }
        }
    }

    private static void statesOfPapers() {
        for (int world : new int[] {BUSY, UNTYPED, FULL}) {
            refuse(world, STATE, "discharging the discharged", x -> discharge(x, 0, true));
            refuse(world, STATE, "restoring what stands", x -> discharge(x, 1, false));
            refuse(world, STATE, "restoring what stands there", x -> discharge(x, 2, false));
            for (int over = 3; over <= 4; over++) {
                int mortgage = over;
                refuse(world, STATE, "discharging what is over", x -> discharge(x, mortgage, true));
                refuse(world, STATE, "restoring what is over", x -> discharge(x, mortgage, false));
            }
        }
    }

    private static void statesOfAFullBook() {
        for (int i = 0; i < 6; i++) {
            int ship = i;
            for (int j = 0; j < 10; j++) {
                int party = j;
                refuse(FULL, STATE, "notice 61", x -> x.notice(ship, party));
                refuse(FULL, STATE, "mortgage 61", x -> x.mortgage(ship, party, 1));
                refuse(FULL, STATE, "lien 61", x -> x.lien(ship, party, 3, MOST_AMOUNT));
                refuse(FULL, STATE, "sale 61", x -> x.court(ship, party, MOST_PRICE));
            }
        }
        refuse(FULL, STATE, "restoring 61", x -> discharge(x, 0, false));
        refuse(FULL, STATE, "discharge 61", x -> discharge(x, 1, true));
        refuse(FULL, STATE, "another discharge 61", x -> discharge(x, 2, true));
    }
}
