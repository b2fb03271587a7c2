/** One method a promise: ordinary inputs, the edges that the document names, and wrong inputs. */
public final class FlaghallPromisesTest {
    private static final Class<?> INDEX = IndexOutOfBoundsException.class;
    private static final Class<?> ARGUMENT = IllegalArgumentException.class;
    private static final Class<?> STATE = IllegalStateException.class;

    private static final int DAY = 1440;
    private static final int[] EXTREMES = {Integer.MIN_VALUE, -1, Integer.MAX_VALUE};

    private static int wrong = 0;

    private interface Call {
        void run();
    }

    private static void same(String what, long got, long want) {
        if (got != want) {
            wrong++;
            System.out.println(what + " answered " + got + ", due is " + want);
        }
    }

    private static void refused(String what, Class<?> want, Call call) {
        Class<?> got = null;
        try {
            call.run();
        } catch (RuntimeException e) {
            got = e.getClass();
        }
        if (got != want) {
            wrong++;
            System.out.println(what + " threw " + got + ", due is " + want);
        }
    }

    public static void main(String[] args) {
        promise1NewObject();
        promise2Letter();
        promise3Person();
        promise4Company();
        promise5Part();
        promise6Land();
        promise6LandBehindCompanies();
        promise7Ship();
        promise8Sell();
        promise9Fly();
        promise10Notice();
        promise11Mortgage();
        promise11PlaceOfNotice();
        promise12Discharge();
        promise13Lien();
        promise14Court();
        promise14Ranks();
        promise14Over();
        promise15Pass();
        promise16Share();
        promise17Sound();
        promise18Flag();
        promise18FlagByParts();
        promise19Rank();
        promise20Search();
        promise21Got();
        promise22Liens();
        fullBookRefusesLast();
        System.out.println(wrong == 0 ? "all promises hold" : wrong + " answers are wrong");
        if (wrong != 0) {
            System.exit(1);
        }
    }

    /** A land with two people, 0 of land 0 and 1 of land 1, and ship 0, all of party 0. */
    private static Flaghall harbour() {
        Flaghall x = new Flaghall();
        x.person(0);
        x.person(1);
        build(x, "b", 0);
        return x;
    }

    private static int build(Flaghall x, String name, int owner) {
        for (int i = 0; i < name.length(); i++) {
            x.letter(name.charAt(i));
        }
        return x.ship(owner);
    }

    private static void soundIs(Flaghall x, int ship, String want) {
        for (int i = 0; i <= 9; i++) {
            char due = i < want.length() ? want.charAt(i) : ' ';
            same("sound " + want + " at " + i, x.sound(ship, i), due);
        }
    }

    private static void promise1NewObject() {
        Flaghall x = new Flaghall();
        same("NONE", Flaghall.NONE, -1);
        refused("land of no party", INDEX, () -> x.land(0));
        refused("flag of no ship", INDEX, () -> x.flag(0));
        refused("rank of no mortgage", INDEX, () -> x.rank(0));
        x.person(0);
        refused("ship with nothing typed", STATE, () -> x.ship(0));
        same("the first minute", x.pass(1), 1);
        Flaghall other = new Flaghall();
        refused("a second object has its own parties", INDEX, () -> other.land(0));
        same("a second object has its own minute", other.pass(2), 2);
    }

    private static void promise2Letter() {
        Flaghall x = new Flaghall();
        refused("letter before a", ARGUMENT, () -> x.letter((char) ('a' - 1)));
        refused("letter behind z", ARGUMENT, () -> x.letter((char) ('z' + 1)));
        refused("big letter", ARGUMENT, () -> x.letter('A'));
        refused("blank", ARGUMENT, () -> x.letter(' '));
        refused("sign 0", ARGUMENT, () -> x.letter((char) 0));
        refused("last sign", ARGUMENT, () -> x.letter((char) 65535));
        same("letter a", x.letter('a'), 1);
        same("letter z", x.letter('z'), 2);
        for (int i = 3; i <= 8; i++) {
            same("letter " + i, x.letter('m'), i);
        }
        refused("ninth letter", STATE, () -> x.letter('m'));
        refused("ninth letter that is none", ARGUMENT, () -> x.letter('1'));
        x.person(0);
        same("the word of 8 letters", x.ship(0), 0);
        soundIs(x, 0, "zm");
        same("a new word", x.letter('q'), 1);
    }

    private static void promise3Person() {
        Flaghall x = new Flaghall();
        refused("person of land -1", INDEX, () -> x.person(-1));
        refused("person of land 4", INDEX, () -> x.person(4));
        for (int i = 0; i < 10; i++) {
            same("person " + i, x.person(i % 4), i);
        }
        refused("eleventh person", STATE, () -> x.person(0));
        refused("eleventh person of no land", INDEX, () -> x.person(4));
        for (int i = 0; i < 10; i++) {
            same("land of person " + i, x.land(i), i % 4);
        }
        refused("there is no party 10", INDEX, () -> x.land(10));
    }

    private static void promise4Company() {
        Flaghall x = new Flaghall();
        same("first company", x.company(), 0);
        same("person behind it", x.person(2), 1);
        same("second company", x.company(), 2);
        same("a new company is of none", x.land(2), -1);
        same("its parts belong to nobody", x.part(2, 1, 0), 0);
        for (int i = 3; i < 10; i++) {
            same("company " + i, x.company(), i);
        }
        refused("eleventh party", STATE, () -> x.company());
        refused("eleventh party, a person", STATE, () -> x.person(0));
    }

    private static void promise5Part() {
        Flaghall x = new Flaghall();
        x.person(0);
        x.company();
        same("part at first", x.part(1, 0, 64), 0);
        same("part anew", x.part(1, 0, 10), 64);
        same("part of itself", x.part(1, 1, 54), 0);
        refused("65 parts", STATE, () -> x.part(1, 0, 11));
        same("as many as before", x.part(1, 0, 10), 10);
        same("no part", x.part(1, 1, 0), 54);
        same("no part any more", x.part(1, 1, 0), 0);
        refused("part of a person", STATE, () -> x.part(0, 1, 1));
        refused("no part of a person", STATE, () -> x.part(0, 1, 0));
        refused("many -1", ARGUMENT, () -> x.part(1, 0, -1));
        refused("many 65", ARGUMENT, () -> x.part(1, 0, 65));
        refused("many 65 of a person", ARGUMENT, () -> x.part(0, 0, 65));
        for (int bad : EXTREMES) {
            refused("part of company " + bad, INDEX, () -> x.part(bad, 0, 65));
            refused("part for party " + bad, INDEX, () -> x.part(1, bad, 65));
            refused("many " + bad, ARGUMENT, () -> x.part(1, 0, bad));
        }
        refused("part for party 2", INDEX, () -> x.part(1, 2, 1));
        refused("part of company 2", INDEX, () -> x.part(2, 1, 1));
    }

    private static void promise6Land() {
        Flaghall x = new Flaghall();
        x.person(3);
        x.person(3);
        x.person(1);
        x.company();
        same("land of a person", x.land(0), 3);
        x.part(3, 0, 16);
        x.part(3, 1, 16);
        same("32 parts are not enough", x.land(3), -1);
        x.part(3, 1, 17);
        same("33 parts are, of two people", x.land(3), 3);
        x.part(3, 2, 31);
        same("the others do not matter", x.land(3), 3);
        x.part(3, 1, 16);
        x.part(3, 2, 32);
        same("32 and 32", x.land(3), -1);
        x.part(3, 0, 0);
        x.part(3, 2, 33);
        same("the other land", x.land(3), 1);
        refused("land of party 4", INDEX, () -> x.land(4));
        for (int bad : EXTREMES) {
            refused("land of party " + bad, INDEX, () -> x.land(bad));
        }
    }

    private static void promise6LandBehindCompanies() {
        Flaghall x = new Flaghall();
        x.person(2);
        for (int i = 1; i <= 7; i++) {
            x.company();
        }
        for (int i = 7; i >= 1; i--) {
            x.part(i, i - 1, 64);
        }
        for (int i = 1; i <= 5; i++) {
            same("behind " + (i - 1) + " others", x.land(i), 2);
        }
        same("behind 5 others", x.land(6), -1);
        same("behind 6 others", x.land(7), -1);
        x.part(6, 5, 31);
        x.part(6, 4, 33);
        same("a shorter way has enough", x.land(6), 2);
        same("and one more behind it has not", x.land(7), -1);
        refused("too many parts", STATE, () -> x.part(6, 4, 34));
        Flaghall y = new Flaghall();
        y.company();
        y.company();
        y.part(0, 1, 64);
        y.part(1, 0, 64);
        same("a ring is of none", y.land(0), -1);
        y.person(1);
        y.part(1, 0, 31);
        y.part(1, 2, 33);
        same("a ring that a person has most of", y.land(0), 1);
        same("the other of the ring", y.land(1), 1);
        Flaghall z = new Flaghall();
        z.company();
        z.person(0);
        z.part(0, 0, 32);
        z.part(0, 1, 32);
        same("its own parts count for nothing", z.land(0), -1);
    }

    private static void promise7Ship() {
        Flaghall x = new Flaghall();
        x.person(0);
        x.company();
        x.letter('b');
        for (int bad : EXTREMES) {
            refused("ship of " + bad, INDEX, () -> x.ship(bad));
        }
        refused("ship of party 2", INDEX, () -> x.ship(2));
        same("the letter stays typed", x.letter('o'), 2);
        same("ship bo", x.ship(1), 0);
        same("all shares", x.share(0, 1), 64);
        same("no shares", x.share(0, 0), 0);
        same("no flag", x.flag(0), -1);
        refused("nothing typed", STATE, () -> x.ship(0));
        same("ship eb sounds alike", build(x, "eb", 0), -1);
        refused("nothing typed then", STATE, () -> x.ship(0));
        same("typed anew", x.letter('a'), 1);
        same("a sound of nothing", x.ship(0), 1);
        same("another sound of nothing", build(x, "iou", 0), -1);
        same("ship bc", build(x, "bc", 0), 2);
        same("ship cb", build(x, "cb", 0), 3);
        same("ship bcb", build(x, "bcb", 0), 4);
        same("ship y", build(x, "y", 0), 5);
        x.letter('z');
        refused("seventh ship", STATE, () -> x.ship(0));
        refused("seventh ship of nobody", INDEX, () -> x.ship(2));
        same("the letter stays typed then too", x.letter('z'), 2);
        refused("there is no ship 6", INDEX, () -> x.flag(6));
    }

    private static void promise8Sell() {
        Flaghall x = harbour();
        same("sell one", x.sell(0, 0, 1, 1), 1);
        same("sell the rest", x.sell(0, 0, 1, 63), 64);
        same("the seller has none", x.share(0, 0), 0);
        refused("sell more than none", STATE, () -> x.sell(0, 0, 1, 1));
        same("sell back", x.sell(0, 1, 0, 40), 40);
        refused("sell more than there are", STATE, () -> x.sell(0, 1, 0, 25));
        same("nothing is changed by that", x.share(0, 1), 24);
        same("sell all one has", x.sell(0, 1, 0, 24), 64);
        refused("sell 0", ARGUMENT, () -> x.sell(0, 0, 1, 0));
        refused("sell 65", ARGUMENT, () -> x.sell(0, 0, 1, 65));
        refused("sell to oneself", ARGUMENT, () -> x.sell(0, 0, 0, 1));
        refused("sell to oneself what one has not", ARGUMENT, () -> x.sell(0, 1, 1, 1));
        for (int bad : EXTREMES) {
            refused("sell ship " + bad, INDEX, () -> x.sell(bad, 0, 0, 65));
            refused("sell from " + bad, INDEX, () -> x.sell(0, bad, bad, 65));
            refused("sell to " + bad, INDEX, () -> x.sell(0, 0, bad, 65));
            refused("sell many " + bad, ARGUMENT, () -> x.sell(0, 0, 1, bad));
        }
        refused("sell ship 1", INDEX, () -> x.sell(1, 0, 1, 1));
        refused("sell to 2", INDEX, () -> x.sell(0, 0, 2, 1));
        refused("sell from 2", INDEX, () -> x.sell(0, 2, 0, 1));
    }

    private static void promise9Fly() {
        Flaghall x = harbour();
        refused("fly a land of nobody", STATE, () -> x.fly(0, 2));
        same("fly first", x.fly(0, 0), -1);
        same("fly again", x.fly(0, 0), 0);
        x.sell(0, 0, 1, 32);
        refused("32 shares, 0", STATE, () -> x.fly(0, 0));
        refused("32 shares, 1", STATE, () -> x.fly(0, 1));
        x.sell(0, 0, 1, 1);
        same("fly with 33 shares, in the grace of another", x.fly(0, 1), 0);
        same("the new flag", x.flag(0), 1);
        x.pass(90 * DAY);
        same("the old grace is over", x.flag(0), 1);
        x.sell(0, 1, 0, 1);
        x.pass(90 * DAY);
        x.sell(0, 0, 1, 1);
        same("it has the last one again", x.flag(0), 1);
        x.sell(0, 1, 0, 33);
        x.pass(90 * DAY);
        same("fly when the flag is lost", x.fly(0, 0), -1);
        for (int bad : EXTREMES) {
            refused("fly ship " + bad, INDEX, () -> x.fly(bad, 0));
            refused("fly land " + bad, INDEX, () -> x.fly(0, bad));
        }
        refused("fly land 4", INDEX, () -> x.fly(0, 4));
        refused("fly ship 1", INDEX, () -> x.fly(1, 0));
        x.person(1);
        x.sell(0, 0, 1, 14);
        x.sell(0, 0, 2, 32);
        x.sell(0, 1, 2, 1);
        same("shares of two people of a land", x.fly(0, 1), 0);
    }

    private static void promise10Notice() {
        Flaghall x = harbour();
        same("first paper", x.notice(0, 0), 1);
        same("second paper", x.notice(0, 1), 2);
        same("the same again", x.notice(0, 1), 3);
        x.mortgage(0, 1, 1);
        same("all papers count", x.notice(0, 0), 5);
        for (int bad : EXTREMES) {
            refused("notice for ship " + bad, INDEX, () -> x.notice(bad, 0));
            refused("notice of party " + bad, INDEX, () -> x.notice(0, bad));
        }
        refused("notice for ship 1", INDEX, () -> x.notice(1, 0));
        refused("notice of party 2", INDEX, () -> x.notice(0, 2));
        same("what is refused is no paper", x.notice(0, 0), 6);
    }

    private static void promise11Mortgage() {
        Flaghall x = harbour();
        build(x, "c", 1);
        same("first mortgage", x.mortgage(0, 1, 1), 0);
        same("dearest mortgage", x.mortgage(1, 0, 1000000000), 1);
        x.notice(0, 0);
        same("third mortgage", x.mortgage(0, 1, 5), 2);
        same("rank on the other ship", x.rank(1), 0);
        same("rank behind the first", x.rank(2), 1);
        refused("amount 0", ARGUMENT, () -> x.mortgage(0, 1, 0));
        refused("amount above", ARGUMENT, () -> x.mortgage(0, 1, 1000000001));
        for (int bad : EXTREMES) {
            refused("mortgage on ship " + bad, INDEX, () -> x.mortgage(bad, 0, 0));
            refused("mortgage of party " + bad, INDEX, () -> x.mortgage(0, bad, 0));
            refused("mortgage of " + bad, ARGUMENT, () -> x.mortgage(0, 0, bad));
        }
        refused("mortgage on ship 2", INDEX, () -> x.mortgage(2, 0, 1));
        refused("mortgage of party 2", INDEX, () -> x.mortgage(0, 2, 1));
        same("papers so far", x.notice(0, 0), 5);
    }

    private static void promise11PlaceOfNotice() {
        Flaghall x = harbour();
        build(x, "c", 1);
        x.notice(0, 1);
        x.mortgage(0, 0, 1);
        x.pass(14 * DAY);
        x.mortgage(1, 1, 1);
        x.mortgage(0, 1, 1);
        same("the notice is 14 days old", x.rank(2), 0);
        same("the one before is behind it", x.rank(0), 1);
        same("a notice is for one ship", x.rank(1), 0);
        x.mortgage(0, 1, 1);
        same("the notice has a mortgage", x.rank(3), 2);
        x.discharge(2, true);
        x.mortgage(0, 1, 1);
        same("also if that is discharged", x.rank(4), 2);
        x.discharge(2, false);
        same("which has its place still", x.rank(2), 0);
        Flaghall y = harbour();
        y.notice(0, 1);
        y.mortgage(0, 0, 1);
        y.notice(0, 1);
        y.mortgage(0, 0, 1);
        y.pass(14 * DAY);
        y.notice(0, 1);
        y.mortgage(0, 0, 1);
        y.mortgage(0, 1, 1);
        same("the first notice comes first", y.rank(3), 0);
        y.pass(1);
        y.mortgage(0, 1, 1);
        same("the second is too old, the third holds", y.rank(4), 3);
        same("the third party's mortgage is behind", y.rank(2), 4);
        y.mortgage(0, 1, 1);
        same("no notice is left", y.rank(5), 5);
    }

    private static void promise12Discharge() {
        Flaghall x = harbour();
        x.mortgage(0, 0, 1);
        x.mortgage(0, 1, 2);
        refused("restoring what stands", STATE, () -> x.discharge(0, false));
        x.discharge(0, true);
        same("discharged", x.rank(0), -1);
        same("the next one comes up", x.rank(1), 0);
        refused("discharged already", STATE, () -> x.discharge(0, true));
        x.discharge(0, false);
        same("restored as it was", x.rank(0), 0);
        same("the next one goes down", x.rank(1), 1);
        refused("restored already", STATE, () -> x.discharge(0, false));
        same("each is a paper", x.notice(0, 0), 5);
        for (int bad : EXTREMES) {
            refused("discharge of " + bad, INDEX, () -> x.discharge(bad, true));
        }
        refused("discharge of 2", INDEX, () -> x.discharge(2, false));
        x.discharge(1, true);
        x.court(0, 0, 1);
        refused("discharge of what is over", STATE, () -> x.discharge(0, true));
        refused("restoring what is over", STATE, () -> x.discharge(0, false));
        refused("restoring what was discharged and is over", STATE, () -> x.discharge(1, false));
        refused("discharging it again", STATE, () -> x.discharge(1, true));
        x.mortgage(0, 1, 3);
        x.discharge(2, true);
        same("a mortgage behind the sale", x.rank(2), -1);
        x.discharge(2, false);
        same("and restored", x.rank(2), 0);
    }

    private static void promise13Lien() {
        Flaghall x = harbour();
        same("first lien", x.lien(0, 0, 0, 1), 1);
        same("dearest lien", x.lien(0, 1, 3, 1000000000), 2);
        refused("class -1", ARGUMENT, () -> x.lien(0, 0, -1, 1));
        refused("class 4", ARGUMENT, () -> x.lien(0, 0, 4, 1));
        refused("amount 0", ARGUMENT, () -> x.lien(0, 0, 0, 0));
        refused("amount above", ARGUMENT, () -> x.lien(0, 0, 0, 1000000001));
        for (int bad : EXTREMES) {
            refused("lien on ship " + bad, INDEX, () -> x.lien(bad, 0, 4, 0));
            refused("lien of party " + bad, INDEX, () -> x.lien(0, bad, 4, 0));
            refused("lien of class " + bad, ARGUMENT, () -> x.lien(0, 0, bad, 1));
            refused("lien of " + bad, ARGUMENT, () -> x.lien(0, 0, 0, bad));
        }
        refused("lien on ship 1", INDEX, () -> x.lien(1, 0, 0, 1));
        refused("lien of party 2", INDEX, () -> x.lien(0, 2, 0, 1));
        same("what is refused is no paper", x.lien(0, 0, 3, 1), 3);
    }

    private static void promise14Court() {
        Flaghall x = harbour();
        x.person(2);
        x.sell(0, 0, 1, 21);
        same("the fund in sixty-fourths", x.court(0, 2, 100), 1);
        same("43 of 64", x.got(0), 67);
        same("21 of 64", x.got(1), 32);
        same("the buyer gets nothing", x.got(2), 0);
        same("all shares are the buyer's", x.share(0, 2), 64);
        same("none are another's", x.share(0, 0) + x.share(0, 1), 0);
        same("it is a paper", x.notice(0, 0), 2);
        same("the dearest price", x.court(0, 2, 2000000000), 0);
        same("all of it", x.got(2), 2000000000L);
        same("the dearest price again", x.court(0, 2, 2000000000), 0);
        same("beyond an int", x.got(2), 4000000000L);
        refused("price 0", ARGUMENT, () -> x.court(0, 0, 0));
        refused("price above", ARGUMENT, () -> x.court(0, 0, 2000000001));
        for (int bad : EXTREMES) {
            refused("sale of ship " + bad, INDEX, () -> x.court(bad, 0, 0));
            refused("sale to party " + bad, INDEX, () -> x.court(0, bad, 0));
            refused("price " + bad, ARGUMENT, () -> x.court(0, 0, bad));
        }
        refused("sale of ship 1", INDEX, () -> x.court(1, 0, 1));
        refused("sale to party 3", INDEX, () -> x.court(0, 3, 1));
        same("the price of 1", x.court(0, 0, 1), 0);
        same("goes to the owner", x.got(2), 4000000001L);
    }

    /** Ten parties: 0 owns the ship, the others each have one claim. */
    private static Flaghall claims() {
        Flaghall x = new Flaghall();
        for (int i = 0; i < 10; i++) {
            x.person(0);
        }
        build(x, "b", 0);
        build(x, "c", 0);
        x.lien(0, 1, 3, 10);
        x.lien(0, 2, 1, 10);
        x.lien(0, 3, 0, 10);
        x.notice(0, 8);
        x.mortgage(0, 7, 10);
        x.lien(0, 4, 2, 10);
        x.lien(0, 5, 1, 10);
        x.lien(0, 6, 0, 10);
        x.mortgage(0, 8, 10);
        x.mortgage(0, 9, 10);
        x.lien(1, 9, 0, 1000);
        x.mortgage(1, 9, 1000);
        return x;
    }

    private static void promise14Ranks() {
        int[] order = {6, 3, 5, 2, 4, 1, 8, 7, 9};
        for (int paid = 1; paid <= order.length; paid++) {
            Flaghall x = claims();
            same("all goes to claims", x.court(0, 9, 10 * paid - 3), 0);
            for (int i = 0; i < order.length; i++) {
                int due = i + 1 < paid ? 10 : i + 1 == paid ? 7 : 0;
                same("claim " + i + " of " + paid, x.got(order[i]), due);
            }
            same("the owner gets nothing", x.got(0), 0);
        }
        Flaghall y = claims();
        y.discharge(0, true);
        same("what is left", y.court(0, 9, 200), 0);
        same("a discharged mortgage gets nothing", y.got(7), 0);
        same("the owner gets the rest", y.got(0), 120);
        Flaghall z = claims();
        z.pass(365 * DAY);
        z.lien(0, 5, 3, 20);
        z.pass(1);
        z.court(0, 9, 100);
        same("barred liens get nothing", z.got(1) + z.got(2) + z.got(3) + z.got(4) + z.got(6), 0);
        same("a new one does", z.got(5), 20);
        same("mortgages are not barred", z.got(7) + z.got(8) + z.got(9), 30);
        same("and the owner the rest", z.got(0), 50);
    }

    private static void promise14Over() {
        Flaghall x = harbour();
        build(x, "c", 0);
        x.fly(0, 0);
        x.fly(1, 0);
        x.lien(0, 1, 0, 5);
        x.lien(1, 1, 0, 5);
        x.mortgage(0, 1, 5);
        x.mortgage(1, 1, 5);
        x.notice(0, 1);
        x.notice(1, 1);
        x.court(0, 0, 100);
        same("liens are over", x.liens(0), 0);
        same("not on another ship", x.liens(1), 1);
        same("mortgages are over", x.rank(0), -1);
        same("not on another ship, these", x.rank(1), 0);
        same("no flag, though the buyer is of the land", x.flag(0), -1);
        same("a flag on the other ship", x.flag(1), 0);
        x.sell(0, 0, 1, 64);
        x.sell(0, 1, 0, 64);
        same("the flag does not come back", x.flag(0), -1);
        same("it may fly anew", x.fly(0, 0), -1);
        x.mortgage(0, 0, 1);
        x.mortgage(0, 1, 1);
        same("notices are over", x.rank(3), 1);
        x.mortgage(1, 0, 1);
        x.mortgage(1, 1, 1);
        same("not for another ship", x.rank(5), 1);
        same("which is before this one", x.rank(4), 2);
        same("the sale of claims that are new", x.court(0, 1, 3), 0);
        same("what the owner got, with the mortgage", x.got(0), 90 + 2);
        same("what the other got", x.got(1), 10 + 1);
        Flaghall y = harbour();
        y.fly(0, 0);
        y.sell(0, 0, 1, 32);
        y.pass(10);
        y.court(0, 0, 1);
        y.fly(0, 0);
        y.pass(90 * DAY);
        same("the grace before the sale is over", y.flag(0), 0);
    }

    private static void promise15Pass() {
        Flaghall x = new Flaghall();
        same("one minute", x.pass(1), 1);
        same("the most minutes", x.pass(1000000), 1000001);
        refused("no minutes", ARGUMENT, () -> x.pass(0));
        refused("too many minutes", ARGUMENT, () -> x.pass(1000001));
        for (int bad : EXTREMES) {
            refused("minutes " + bad, ARGUMENT, () -> x.pass(bad));
        }
        same("none went by", x.pass(9), 1000010);
        for (int i = 0; i < 500; i++) {
            x.pass(1000000);
        }
        same("many minutes", x.pass(1), 501000011L);
    }

    private static void promise16Share() {
        Flaghall x = harbour();
        same("the builder's", x.share(0, 0), 64);
        same("another's", x.share(0, 1), 0);
        x.sell(0, 0, 1, 10);
        same("the seller's", x.share(0, 0), 54);
        same("the buyer's", x.share(0, 1), 10);
        build(x, "c", 1);
        same("of the second ship", x.share(1, 1), 64);
        same("of the first ship still", x.share(0, 1), 10);
        for (int bad : EXTREMES) {
            refused("share of ship " + bad, INDEX, () -> x.share(bad, 0));
            refused("share of party " + bad, INDEX, () -> x.share(0, bad));
        }
        refused("share of ship 2", INDEX, () -> x.share(2, 0));
        refused("share of party 2", INDEX, () -> x.share(0, 2));
    }

    private static void promise17Sound() {
        Flaghall x = new Flaghall();
        x.person(0);
        String[] names = {"aeiou", "bcdfghjk", "lalelilo", "abbacabb", "yyxyx", "zz"};
        String[] sounds = {"", "bcdfghjk", "l", "bcb", "yxyx", "z"};
        for (int i = 0; i < names.length; i++) {
            same("ship " + names[i], build(x, names[i], 0), i);
            soundIs(x, i, sounds[i]);
        }
        same("beyond all", x.sound(1, Integer.MAX_VALUE), ' ');
        refused("place -1", INDEX, () -> x.sound(0, -1));
        refused("least place", INDEX, () -> x.sound(0, Integer.MIN_VALUE));
        for (int bad : EXTREMES) {
            refused("sound of ship " + bad, INDEX, () -> x.sound(bad, 0));
        }
        refused("sound of ship 6", INDEX, () -> x.sound(6, 0));
        Flaghall y = new Flaghall();
        y.person(0);
        build(y, "bcd", 0);
        same("a long name refused", build(y, "bbccdd", 0), -1);
        same("a short one then", build(y, "b", 0), 1);
        soundIs(y, 1, "b");
    }

    private static void promise18Flag() {
        Flaghall x = harbour();
        same("no flag at first", x.flag(0), -1);
        x.pass(7);
        x.fly(0, 0);
        x.sell(0, 0, 1, 31);
        x.pass(90 * DAY);
        same("33 shares are enough", x.flag(0), 0);
        x.sell(0, 0, 1, 1);
        x.pass(90 * DAY - 2);
        x.sell(0, 0, 1, 1);
        x.pass(1);
        same("the last minute of the grace", x.flag(0), 0);
        x.pass(1);
        same("the grace has gone by", x.flag(0), -1);
        x.pass(1000000);
        x.sell(0, 1, 0, 1);
        same("still not enough", x.flag(0), -1);
        x.sell(0, 1, 0, 1);
        same("it is so again", x.flag(0), 0);
        x.sell(0, 0, 1, 1);
        x.pass(90 * DAY - 1);
        same("a grace of its own", x.flag(0), 0);
        x.sell(0, 1, 0, 1);
        x.sell(0, 0, 1, 1);
        x.pass(1);
        same("which began anew", x.flag(0), 0);
        for (int bad : EXTREMES) {
            refused("flag of ship " + bad, INDEX, () -> x.flag(bad));
        }
        refused("flag of ship 1", INDEX, () -> x.flag(1));
    }

    private static void promise18FlagByParts() {
        Flaghall x = harbour();
        x.company();
        x.company();
        build(x, "c", 3);
        x.part(2, 0, 64);
        x.part(3, 2, 64);
        x.sell(0, 0, 2, 64);
        x.fly(0, 0);
        x.fly(1, 0);
        x.part(2, 0, 32);
        x.pass(90 * DAY - 1);
        same("ship of the company in grace", x.flag(0), 0);
        same("ship of the one behind it in grace", x.flag(1), 0);
        x.pass(1);
        same("lost by parts", x.flag(0), -1);
        same("lost by parts of parts", x.flag(1), -1);
        x.part(2, 1, 32);
        same("lost still", x.flag(0), -1);
        x.part(2, 1, 0);
        x.part(2, 0, 33);
        same("again by parts", x.flag(0), 0);
        same("again by parts of parts", x.flag(1), 0);
        x.part(3, 2, 0);
        x.pass(90 * DAY);
        same("the other company's parts do not matter", x.flag(0), 0);
        same("these did", x.flag(1), -1);
    }

    private static void promise19Rank() {
        Flaghall x = harbour();
        x.notice(0, 1);
        for (int i = 0; i < 4; i++) {
            x.mortgage(0, 0, 1);
        }
        x.mortgage(0, 1, 1);
        same("the notice's place", x.rank(4), 0);
        for (int i = 0; i < 4; i++) {
            same("rank of " + i, x.rank(i), i + 1);
        }
        x.discharge(1, true);
        x.discharge(4, true);
        same("discharged", x.rank(1), -1);
        same("discharged too", x.rank(4), -1);
        same("first now", x.rank(0), 0);
        same("second now", x.rank(2), 1);
        same("third now", x.rank(3), 2);
        x.discharge(1, false);
        same("restored between them", x.rank(1), 1);
        same("behind it", x.rank(2), 2);
        for (int bad : EXTREMES) {
            refused("rank of " + bad, INDEX, () -> x.rank(bad));
        }
        refused("rank of 5", INDEX, () -> x.rank(5));
        x.court(0, 0, 1);
        same("over", x.rank(0), -1);
        x.mortgage(0, 0, 1);
        same("the first after the sale", x.rank(5), 0);
    }

    private static void promise20Search() {
        Flaghall x = harbour();
        build(x, "c", 1);
        x.notice(0, 1);
        x.mortgage(0, 0, 1);
        x.pass(5);
        x.mortgage(1, 0, 1);
        x.mortgage(0, 1, 1);
        x.pass(5);
        x.discharge(0, true);
        x.pass(5);
        x.discharge(0, false);
        x.pass(5);
        x.court(0, 1, 1);
        x.pass(5);
        x.mortgage(0, 0, 1);
        long[] minutes = {0, 4, 5, 9, 10, 14, 15, 19, 20, 24, 25};
        int[] firsts = {0, 0, 2, 2, 2, 2, 2, 2, -1, -1, 3};
        int[] seconds = {-1, -1, 0, 0, -1, -1, 0, 0, -1, -1, -1};
        for (int i = 0; i < minutes.length; i++) {
            same("first at " + minutes[i], x.search(0, minutes[i], 0), firsts[i]);
            same("second at " + minutes[i], x.search(0, minutes[i], 1), seconds[i]);
            same("third at " + minutes[i], x.search(0, minutes[i], 2), -1);
        }
        same("of the other ship before", x.search(1, 4, 0), -1);
        same("of the other ship", x.search(1, 5, 0), 1);
        same("of the other ship now", x.search(1, 25, 0), 1);
        refused("minute -1", ARGUMENT, () -> x.search(0, -1, 0));
        refused("minute to come", ARGUMENT, () -> x.search(0, 26, 0));
        refused("least minute", ARGUMENT, () -> x.search(0, Long.MIN_VALUE, 0));
        refused("last minute", ARGUMENT, () -> x.search(0, Long.MAX_VALUE, 0));
        refused("a minute that is 0 as an int", ARGUMENT, () -> x.search(0, 1L << 32, 0));
        refused("rank -1", INDEX, () -> x.search(0, 0, -1));
        refused("rank -1 in minute -1", INDEX, () -> x.search(0, -1, -1));
        refused("least rank", INDEX, () -> x.search(0, 0, Integer.MIN_VALUE));
        same("last rank", x.search(0, 0, Integer.MAX_VALUE), -1);
        for (int bad : EXTREMES) {
            refused("search of ship " + bad, INDEX, () -> x.search(bad, -1, 0));
        }
        refused("search of ship 2", INDEX, () -> x.search(2, 0, 0));
    }

    private static void promise21Got() {
        Flaghall x = harbour();
        same("nothing at first", x.got(0), 0);
        x.sell(0, 0, 1, 16);
        same("a sale of shares", x.got(0), 0);
        x.lien(0, 1, 2, 50);
        x.mortgage(0, 1, 30);
        x.court(0, 0, 144);
        same("as owner", x.got(0), 48);
        same("as owner, by lien and by mortgage", x.got(1), 16 + 50 + 30);
        x.court(0, 1, 7);
        same("in all", x.got(0), 48 + 7);
        for (int bad : EXTREMES) {
            refused("got of " + bad, INDEX, () -> x.got(bad));
        }
        refused("got of 2", INDEX, () -> x.got(2));
    }

    private static void promise22Liens() {
        Flaghall x = harbour();
        build(x, "c", 1);
        same("none at first", x.liens(0), 0);
        x.lien(0, 0, 0, 1);
        x.pass(1);
        x.lien(0, 0, 0, 1);
        x.lien(1, 0, 3, 1);
        x.notice(0, 0);
        x.mortgage(0, 0, 1);
        same("two on it", x.liens(0), 2);
        same("one on the other", x.liens(1), 1);
        x.pass(365 * DAY - 1);
        same("365 days", x.liens(0), 2);
        x.pass(1);
        same("a minute more", x.liens(0), 1);
        x.pass(1);
        same("two minutes more", x.liens(0), 0);
        same("the other too", x.liens(1), 0);
        x.lien(0, 0, 1, 1);
        x.court(0, 0, 1);
        same("over", x.liens(0), 0);
        x.lien(0, 0, 1, 1);
        same("anew", x.liens(0), 1);
        for (int bad : EXTREMES) {
            refused("liens of ship " + bad, INDEX, () -> x.liens(bad));
        }
        refused("liens of ship 2", INDEX, () -> x.liens(2));
    }

    private static void fullBookRefusesLast() {
        Flaghall x = harbour();
        x.mortgage(0, 0, 1);
        x.mortgage(0, 0, 1);
        x.discharge(1, true);
        for (int i = 4; i < 60; i++) {
            same("paper " + i, x.notice(0, 1), i);
        }
        same("the last paper", x.lien(0, 0, 0, 1), 60);
        refused("notice 61", STATE, () -> x.notice(0, 0));
        refused("mortgage 61", STATE, () -> x.mortgage(0, 0, 1));
        refused("discharge 61", STATE, () -> x.discharge(0, true));
        refused("restoring 61", STATE, () -> x.discharge(1, false));
        refused("lien 61", STATE, () -> x.lien(0, 0, 0, 1));
        refused("court 61", STATE, () -> x.court(0, 0, 1));
        refused("notice, ship first", INDEX, () -> x.notice(1, 0));
        refused("mortgage, amount first", ARGUMENT, () -> x.mortgage(0, 0, 0));
        refused("discharge, mortgage first", INDEX, () -> x.discharge(2, true));
        refused("lien, class first", ARGUMENT, () -> x.lien(0, 0, 4, 1));
        refused("court, price first", ARGUMENT, () -> x.court(0, 0, 0));
        same("nothing changed", x.rank(0), 0);
        same("nothing got", x.got(0), 0);
        Flaghall y = harbour();
        for (int i = 0; i < 60; i++) {
            same("mortgage " + i, y.mortgage(0, 0, 1), i);
        }
        same("the last rank", y.rank(59), 59);
        same("the last by search", y.search(0, 0, 59), 59);
        same("no more", y.search(0, 0, 60), -1);
        Flaghall z = harbour();
        for (int i = 0; i < 59; i++) {
            z.lien(0, 1, 1, 1);
        }
        same("a sale as the last paper", z.court(0, 1, 60), 0);
        same("59 liens", z.got(1), 59);
        refused("no sale more", STATE, () -> z.court(0, 1, 60));
    }
}
