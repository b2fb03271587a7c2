/**
 * Each sentence of the document on parties, ships and flags that names a boundary: a method a sentence,
 * in the document's order. Each tries the last value that is allowed and the first that is not, on both
 * sides, and nothing there yet and full. What a refused call leaves as it was is the matter of
 * FlaghallRefusalsTest; papers are the matter of FlaghallPaperEdgesTest.
 */
public final class FlaghallShipEdgesTest {
    private static final Class<?> INDEX = IndexOutOfBoundsException.class;
    private static final Class<?> ARGUMENT = IllegalArgumentException.class;
    private static final Class<?> STATE = IllegalStateException.class;

    private static final int NONE = -1;
    private static final int MIN = Integer.MIN_VALUE;
    private static final int MAX = Integer.MAX_VALUE;
    private static final int DAY = 1440;
    private static final int GRACE = 90 * DAY;

    private static int wrong = 0;

    private interface Call {
        void run();
    }

    private static void same(String what, long got, long want) {
        if (got != want) {
            wrong++;
            System.out.println(what + " answered " + got + ", due is " + want);
        }
    }

    private static void refused(String what, Class<?> want, Call call) {
        Class<?> got = null;
        try {
            call.run();
        } catch (RuntimeException e) {
            got = e.getClass();
        }
        if (got != want) {
            wrong++;
            System.out.println(what + " threw " + got + ", due is " + want);
        }
    }

    public static void main(String[] args) {
        parties();
        lands();
        sounds();
        flags();
        minutes();
        System.out.println(wrong == 0 ? "all edges of ships hold" : wrong + " answers are wrong");
        if (wrong != 0) {
            System.exit(1);
        }
    }

    // ---- beginnings

    /** People of the lands 0, 1, 2 and 3, by these numbers, and ship 0 "b", all of party 0. */
    private static Flaghall harbour() {
        Flaghall x = new Flaghall();
        for (int land = 0; land <= 3; land++) {
            x.person(land);
        }
        build(x, "b", 0);
        return x;
    }

    private static int build(Flaghall x, String name, int owner) {
        for (int i = 0; i < name.length(); i++) {
            x.letter(name.charAt(i));
        }
        return x.ship(owner);
    }

    private static String soundOf(Flaghall x, int ship) {
        StringBuilder sound = new StringBuilder();
        for (int i = 0; i < 9; i++) {
            sound.append(x.sound(ship, i));
        }
        return sound.toString();
    }

    private static void soundIs(Flaghall x, int ship, String want) {
        String got = soundOf(x, ship);
        if (!got.equals((want + "         ").substring(0, 9))) {
            wrong++;
            System.out.println("the sound is " + got + ", due is " + want);
        }
    }

    /** Lets more minutes go by than one call can. */
    private static void passLong(Flaghall x, int minutes) {
        int left = minutes;
        while (left > 1000000) {
            x.pass(1000000);
            left -= 1000000;
        }
        x.pass(left);
    }

    // ---- Parties

    private static void parties() {
        landsAre0To3();
        noPartyYet();
        atMostTenPeople();
        atMostTenCompanies();
        atMostTenOfBoth();
        partsAre0To64();
        aCompanyHas64Parts();
        aPersonHasNoParts();
    }

    /** "There are the lands 0 to 3." */
    private static void landsAre0To3() {
        Flaghall x = new Flaghall();
        for (int bad : new int[] {MIN, -2, -1, 4, 5, MAX}) {
            refused("person of land " + bad, INDEX, () -> x.person(bad));
        }
        same("person of land 0", x.person(0), 0);
        same("person of land 3", x.person(3), 1);
        same("the first land", x.land(0), 0);
        same("the last land", x.land(1), 3);
        build(x, "b", 0);
        build(x, "c", 1);
        for (int bad : new int[] {MIN, -2, -1, 4, 5, MAX}) {
            refused("fly land " + bad, INDEX, () -> x.fly(0, bad));
        }
        same("fly land 0", x.fly(0, 0), NONE);
        same("fly land 3", x.fly(1, 3), NONE);
    }

    /** "Begins in the minute 0, without parties and ships." */
    private static void noPartyYet() {
        Flaghall x = new Flaghall();
        x.letter('b');
        refused("land of party 0", INDEX, () -> x.land(0));
        refused("got of party 0", INDEX, () -> x.got(0));
        refused("ship of party 0", INDEX, () -> x.ship(0));
        refused("part of party 0", INDEX, () -> x.part(0, 0, 0));
        x.company();
        same("land of party 0 then", x.land(0), NONE);
        same("got of party 0 then", x.got(0), 0);
        refused("land of party 1", INDEX, () -> x.land(1));
        refused("got of party 1", INDEX, () -> x.got(1));
        refused("ship of party 1", INDEX, () -> x.ship(1));
        refused("part for party 1", INDEX, () -> x.part(0, 1, 0));
        refused("part of party 1", INDEX, () -> x.part(1, 0, 0));
        same("part for party 0 then", x.part(0, 0, 0), 0);
        same("ship of party 0 then", x.ship(0), 0);
    }

    /** "Parties are numbered from 0, at most 10", "if there are 10 parties". */
    private static void atMostTenPeople() {
        Flaghall x = new Flaghall();
        for (int i = 0; i < 10; i++) {
            int next = i;
            refused("land of party " + i + ", yet to come", INDEX, () -> x.land(next));
            same("person " + i, x.person(3 - i % 4), i);
            same("its land", x.land(i), 3 - i % 4);
        }
        refused("person 10", STATE, () -> x.person(0));
        refused("person 10 of the last land", STATE, () -> x.person(3));
        refused("company 10", STATE, () -> x.company());
        refused("land of party 10", INDEX, () -> x.land(10));
        same("the last one is still there", x.land(9), 2);
    }

    /** "if there are 10 parties", of a company. */
    private static void atMostTenCompanies() {
        Flaghall x = new Flaghall();
        for (int i = 0; i < 10; i++) {
            same("company " + i, x.company(), i);
        }
        refused("company 10", STATE, () -> x.company());
        refused("person 10", STATE, () -> x.person(0));
        refused("land of party 10", INDEX, () -> x.land(10));
        same("the last one is still there", x.land(9), NONE);
        same("and may have parts of the first one", x.part(0, 9, 64), 0);
        same("and the first one of it", x.part(9, 0, 64), 0);
        refused("there is no party 10 to have some", INDEX, () -> x.part(0, 10, 0));
    }

    /** "people, each of a land, and companies": they are numbered together. */
    private static void atMostTenOfBoth() {
        for (int companies = 0; companies <= 1; companies++) {
            Flaghall x = new Flaghall();
            for (int i = 0; i < 9; i++) {
                same("party " + i, i % 2 == companies ? x.company() : x.person(1), i);
            }
            same("the tenth party", companies == 1 ? x.company() : x.person(2), 9);
            same("its land", x.land(9), companies == 1 ? NONE : 2);
            refused("an eleventh company", STATE, () -> x.company());
            refused("an eleventh person", STATE, () -> x.person(0));
        }
    }

    /** "many: 0 to 64", "Returns how many it had." */
    private static void partsAre0To64() {
        Flaghall x = new Flaghall();
        x.company();
        x.person(0);
        same("none at first", x.part(0, 1, 0), 0);
        for (int bad : new int[] {MIN, -64, -2, -1, 65, 66, 128, MAX}) {
            refused("parts " + bad, ARGUMENT, () -> x.part(0, 1, bad));
        }
        same("the fewest before", x.part(0, 1, 64), 0);
        same("the most before", x.part(0, 1, 64), 64);
        same("still the most before", x.part(0, 1, 0), 64);
        same("none before", x.part(0, 1, 1), 0);
        same("one before", x.part(0, 1, 63), 1);
        same("63 before", x.part(0, 1, 0), 63);
    }

    /** "A company has 64 parts", "or more than 64 parts would belong to parties". */
    private static void aCompanyHas64Parts() {
        Flaghall x = new Flaghall();
        for (int i = 0; i < 10; i++) {
            if (i == 4) {
                x.company();
            } else {
                x.person(0);
            }
        }
        same("63 parts of one", x.part(4, 0, 63), 0);
        refused("two of the last party make 65", STATE, () -> x.part(4, 9, 2));
        refused("64 of the last party make 127", STATE, () -> x.part(4, 9, 64));
        same("one of the last party makes 64", x.part(4, 9, 1), 0);
        refused("one of its own makes 65", STATE, () -> x.part(4, 4, 1));
        same("none of its own makes 64 still", x.part(4, 4, 0), 0);
        refused("one more of the first makes 65", STATE, () -> x.part(4, 0, 64));
        same("as many as it has makes 64", x.part(4, 0, 63), 63);
        same("one less of the first", x.part(4, 0, 62), 63);
        refused("two of its own make 65", STATE, () -> x.part(4, 4, 2));
        same("one of its own makes 64", x.part(4, 4, 1), 0);
        x.part(4, 0, 0);
        for (int i = 0; i < 9; i++) {
            same("parts for party " + i, x.part(4, i, 7), i == 4 ? 1 : 0);
        }
        same("63 of nine make 64 with that of the last", x.part(4, 9, 1), 1);
        for (int i = 0; i < 9; i++) {
            int party = i;
            refused("65 with one more for party " + i, STATE, () -> x.part(4, party, 8));
        }
        refused("65 with one more for the last party", STATE, () -> x.part(4, 9, 2));
        Flaghall y = new Flaghall();
        y.company();
        y.company();
        y.part(0, 1, 64);
        same("the parts of another company", y.part(1, 0, 64), 0);
        refused("one of its own makes 65", STATE, () -> y.part(1, 1, 1));
    }

    /** "if the first one is a person": with any number, even with none. */
    private static void aPersonHasNoParts() {
        Flaghall x = new Flaghall();
        x.person(0);
        x.company();
        x.person(3);
        for (int person : new int[] {0, 2}) {
            for (int many : new int[] {0, 1, 64}) {
                refused("parts of person " + person, STATE, () -> x.part(person, 1, many));
                refused("parts of its own", STATE, () -> x.part(person, person, many));
            }
        }
        same("parts of a company", x.part(1, 0, 0), 0);
        same("the land of a person stays", x.land(0), 0);
        same("and of the other", x.land(2), 3);
    }

    // ---- of which land a company is

    private static void lands() {
        moreThan32Parts();
        moreThan32PartsOfTogether();
        moreThan32OfEachLand();
        partiesOfNoneDoNotCount();
        behindUpToFourOthers();
        noneThereIsNotNoneEverywhere();
        rings();
        ringsDoNotHoldALand();
    }

    /** "A company is of a land, if more than 32 of its parts belong to parties that are of it". */
    private static void moreThan32Parts() {
        for (int land = 0; land <= 3; land++) {
            Flaghall x = new Flaghall();
            x.person(land);
            x.company();
            same("no parts", x.land(1), NONE);
            int[] many = {1, 31, 32, 33, 34, 63, 64, 33, 32, 0};
            for (int parts : many) {
                x.part(1, 0, parts);
                same(parts + " parts of land " + land, x.land(1), parts > 32 ? land : NONE);
            }
        }
    }

    private static void moreThan32PartsOfTogether() {
        Flaghall x = new Flaghall();
        for (int i = 0; i < 9; i++) {
            x.person(1);
        }
        x.company();
        for (int i = 0; i < 8; i++) {
            x.part(9, i, 4);
        }
        same("32 of eight people", x.land(9), NONE);
        x.part(9, 8, 1);
        same("33 of nine people", x.land(9), 1);
        x.part(9, 0, 3);
        same("32 of nine people", x.land(9), NONE);
    }

    private static void moreThan32OfEachLand() {
        for (int land = 0; land <= 3; land++) {
            Flaghall x = new Flaghall();
            int other = (land + 1) % 4;
            x.person(land);
            x.person(other);
            x.company();
            x.part(2, 0, 32);
            x.part(2, 1, 32);
            same("32 and 32 of lands " + land + " and " + other, x.land(2), NONE);
            x.part(2, 1, 31);
            same("32 and 31", x.land(2), NONE);
            x.part(2, 0, 33);
            same("33 and 31", x.land(2), land);
            x.part(2, 0, 31);
            x.part(2, 1, 33);
            same("31 and 33", x.land(2), other);
        }
        Flaghall y = new Flaghall();
        for (int land = 0; land <= 3; land++) {
            y.person(land);
        }
        y.company();
        for (int land = 0; land <= 3; land++) {
            y.part(4, land, 16);
        }
        same("16 of each land", y.land(4), NONE);
    }

    /** What belongs to nobody, or to a company of none, is of no land. */
    private static void partiesOfNoneDoNotCount() {
        Flaghall x = new Flaghall();
        x.person(0);
        x.company();
        x.company();
        x.part(2, 1, 33);
        same("33 of a company of none", x.land(2), NONE);
        x.part(2, 0, 31);
        same("and 31 of a person", x.land(2), NONE);
        x.part(1, 0, 33);
        same("the company is of the land now", x.land(2), 0);
        x.part(1, 0, 32);
        same("and of none again", x.land(2), NONE);
        x.part(2, 1, 31);
        x.part(2, 0, 33);
        same("33 of a person are enough", x.land(2), 0);
    }

    /** A person 0 of land 2, and companies 1 to 9, each wholly of the party before it. */
    private static Flaghall line() {
        Flaghall x = new Flaghall();
        x.person(2);
        for (int i = 1; i <= 9; i++) {
            x.company();
        }
        for (int i = 1; i <= 9; i++) {
            x.part(i, i - 1, 64);
        }
        return x;
    }

    /** "that is looked for behind up to 4 other companies, each belonging in part to the next one". */
    private static void behindUpToFourOthers() {
        Flaghall x = line();
        for (int i = 1; i <= 9; i++) {
            same("behind " + (i - 1) + " other companies", x.land(i), i <= 5 ? 2 : NONE);
        }
        build(x, "b", 5);
        build(x, "c", 6);
        same("a ship of one behind 4 others", x.fly(0, 2), NONE);
        refused("a ship of one behind 5 others", STATE, () -> x.fly(1, 2));
        x.sell(1, 6, 0, 32);
        refused("32 shares of a person and 32 of that one", STATE, () -> x.fly(1, 2));
        x.sell(1, 6, 5, 1);
        same("one of them to one behind 4 others", x.fly(1, 2), NONE);
        x.part(2, 1, 0);
        same("a line that ends at a company", x.land(3), NONE);
        x.part(2, 0, 64);
        for (int i = 2; i <= 9; i++) {
            same("behind " + (i - 2) + " others now", x.land(i), i <= 6 ? 2 : NONE);
        }
    }

    /** "one that is come to behind 5, the one that is asked for being the first of these, is of none there". */
    private static void noneThereIsNotNoneEverywhere() {
        Flaghall x = line();
        x.part(6, 5, 1);
        x.part(6, 0, 32);
        same("the one behind 4 others is of the land", x.land(5), 2);
        same("but its part does not count from one further", x.land(6), NONE);
        x.part(6, 0, 33);
        same("33 of the person do", x.land(6), 2);
        x.part(6, 0, 32);
        x.part(6, 5, 0);
        x.part(6, 4, 1);
        same("a part of one nearer does", x.land(6), 2);
        x.part(6, 4, 0);
        x.part(6, 0, 0);
        x.part(6, 5, 32);
        x.part(6, 3, 32);
        same("32 behind 3 others and 32 behind 5", x.land(6), NONE);
        x.part(6, 5, 31);
        x.part(6, 4, 1);
        same("33 behind 3 others and 4, and 31 behind 5", x.land(6), 2);
    }

    private static void rings() {
        Flaghall x = new Flaghall();
        x.company();
        x.person(0);
        x.part(0, 0, 64);
        same("all its own", x.land(0), NONE);
        x.part(0, 0, 33);
        x.part(0, 1, 31);
        same("33 its own", x.land(0), NONE);
        x.part(0, 0, 32);
        x.part(0, 1, 32);
        same("32 its own", x.land(0), NONE);
        x.part(0, 0, 31);
        x.part(0, 1, 33);
        same("31 its own", x.land(0), 0);
        Flaghall y = new Flaghall();
        for (int i = 0; i < 10; i++) {
            y.company();
        }
        for (int i = 0; i < 10; i++) {
            y.part(i, (i + 1) % 10, 64);
        }
        for (int i = 0; i < 10; i++) {
            same("a ring of ten companies", y.land(i), NONE);
        }
        Flaghall z = new Flaghall();
        z.person(3);
        for (int i = 1; i <= 6; i++) {
            z.company();
        }
        for (int i = 1; i <= 6; i++) {
            z.part(i, i % 6 + 1, 33);
        }
        z.part(6, 1, 31);
        z.part(6, 0, 33);
        for (int i = 1; i <= 6; i++) {
            same("a ring that a person breaks into, company " + i, z.land(i), i >= 2 ? 3 : NONE);
        }
    }

    /** What was found before counts for nothing: each land is looked for from the start. */
    private static void ringsDoNotHoldALand() {
        for (int first = 0; first <= 1; first++) {
            Flaghall x = new Flaghall();
            x.company();
            x.company();
            x.person(0);
            int other = 1 - first;
            x.part(first, other, 64);
            x.part(other, 2, 33);
            x.part(other, first, 31);
            same("the one that the person has most of", x.land(other), 0);
            same("the one behind it", x.land(first), 0);
            x.part(other, 2, 32);
            same("32 of the person and 31 of the ring", x.land(other), NONE);
            same("the one behind it then", x.land(first), NONE);
            x.part(other, 2, 33);
            same("33 of the person again", x.land(other), 0);
            same("the one behind it again", x.land(first), 0);
        }
    }

    // ---- Ships and their names

    private static void sounds() {
        lettersAreAToZ();
        aWordHasUpTo8();
        nothingTyped();
        atMostSixShips();
        vowelsAreNotHeard();
        alikeOneBehindTheOther();
        noTwoShipsSoundAlike();
        soundPlaces();
    }

    /** "letter: a to z". */
    private static void lettersAreAToZ() {
        for (char sign = 0; sign < 300; sign++) {
            char typed = sign;
            Flaghall x = new Flaghall();
            if (sign >= 'a' && sign <= 'z') {
                same("letter " + sign, x.letter(sign), 1);
            } else {
                refused("sign " + (int) sign, ARGUMENT, () -> x.letter(typed));
            }
        }
        Flaghall x = new Flaghall();
        for (int sign : new int[] {'a' + 256, 'z' + 256, 'a' + 65280, 32768, 65534, 65535}) {
            refused("sign " + sign, ARGUMENT, () -> x.letter((char) sign));
        }
        same("none was typed", x.letter('a'), 1);
    }

    /** "Throws IllegalStateException if it has 8", "Returns how many it has then." */
    private static void aWordHasUpTo8() {
        Flaghall x = new Flaghall();
        x.person(0);
        for (int i = 1; i <= 8; i++) {
            same("letter " + i, x.letter((char) ('b' + i)), i);
        }
        refused("letter 9", STATE, () -> x.letter('z'));
        refused("letter 9 again", STATE, () -> x.letter('a'));
        same("a word of 8", x.ship(0), 0);
        soundIs(x, 0, "cdfghj");
        for (int i = 1; i <= 8; i++) {
            same("letter " + i + " of the next word", x.letter('a'), i);
        }
        refused("letter 9 of vowels", STATE, () -> x.letter('a'));
        same("8 vowels are a word", x.ship(0), 1);
        soundIs(x, 1, "");
    }

    /** "nothing is typed then, also if the name may not be", "if nothing is typed". */
    private static void nothingTyped() {
        Flaghall x = new Flaghall();
        x.person(0);
        refused("no word yet", STATE, () -> x.ship(0));
        x.letter('b');
        same("a word of one", x.ship(0), 0);
        refused("no word any more", STATE, () -> x.ship(0));
        for (int i = 1; i <= 8; i++) {
            same("letter " + i + " of a bad name", x.letter('b'), i);
        }
        same("a bad name", x.ship(0), NONE);
        refused("no word after it", STATE, () -> x.ship(0));
        refused("and no ship", INDEX, () -> x.flag(1));
        same("the first letter after it", x.letter('c'), 1);
        same("a good name", x.ship(0), 1);
        soundIs(x, 0, "b");
        soundIs(x, 1, "c");
    }

    /** "Ships are numbered from 0, at most 6", "or there are 6". */
    private static void atMostSixShips() {
        Flaghall x = new Flaghall();
        x.person(0);
        x.person(1);
        String names = "bcdfgh";
        for (int i = 0; i < 6; i++) {
            int next = i;
            refused("flag of ship " + i + ", yet to come", INDEX, () -> x.flag(next));
            same("ship " + i, build(x, names.substring(i, i + 1), i % 2), i);
            same("flag of ship " + i, x.flag(i), NONE);
            same("shares of its owner", x.share(i, i % 2), 64);
            same("shares of the other", x.share(i, 1 - i % 2), 0);
            if (i < 5) {
                same("a name that may not be", build(x, "b", 0), NONE);
            }
        }
        refused("a seventh ship, nothing typed", STATE, () -> x.ship(0));
        x.letter('j');
        refused("a seventh ship", STATE, () -> x.ship(0));
        refused("a seventh ship of the last party", STATE, () -> x.ship(1));
        refused("flag of ship 6", INDEX, () -> x.flag(6));
        refused("flag of ship -1", INDEX, () -> x.flag(-1));
        Flaghall y = new Flaghall();
        y.person(0);
        for (int i = 0; i < 6; i++) {
            build(y, names.substring(i, i + 1), 0);
        }
        y.letter('b');
        refused("a seventh ship, though its name may not be", STATE, () -> y.ship(0));
        same("the word stays", y.letter('b'), 2);
    }

    /** "The sound of a name is its letters without a, e, i, o and u". */
    private static void vowelsAreNotHeard() {
        for (char letter = 'a'; letter <= 'z'; letter++) {
            Flaghall x = new Flaghall();
            x.person(0);
            same("ship " + letter, build(x, String.valueOf(letter), 0), 0);
            soundIs(x, 0, "aeiou".indexOf(letter) >= 0 ? "" : String.valueOf(letter));
        }
        String[] names = {"aeiou", "aabaeiou", "aeiouaac", "yawahax"};
        String[] heard = {"", "b", "c", "ywhx"};
        Flaghall x = new Flaghall();
        x.person(0);
        for (int i = 0; i < names.length; i++) {
            same("ship " + names[i], build(x, names[i], 0), i);
            soundIs(x, i, heard[i]);
        }
    }

    /** "of letters one behind the other that are alike then just one". */
    private static void alikeOneBehindTheOther() {
        String[] names = {"bb", "bab", "cccccccc", "cbc", "ddgdd", "gagegigo"};
        String[] heard = {"b", "b", "c", "cbc", "dgd", "g"};
        for (int i = 0; i < names.length; i++) {
            Flaghall x = new Flaghall();
            x.person(0);
            same("ship " + names[i], build(x, names[i], 0), 0);
            soundIs(x, 0, heard[i]);
        }
        Flaghall y = new Flaghall();
        y.person(0);
        build(y, "bbccddbb", 0);
        build(y, "bcdfghjk", 0);
        build(y, "bcbcbcbc", 0);
        build(y, "abbabbac", 0);
        soundIs(y, 0, "bcdb");
        soundIs(y, 1, "bcdfghjk");
        soundIs(y, 2, "bcbcbcbc");
        soundIs(y, 3, "bc");
    }

    /** "no two ships have the same sound", "NONE if another ship has the same sound". */
    private static void noTwoShipsSoundAlike() {
        Flaghall x = new Flaghall();
        x.person(0);
        same("ship bc", build(x, "bc", 0), 0);
        same("its beginning is another", build(x, "b", 0), 1);
        same("its end is another", build(x, "c", 0), 2);
        same("longer is another", build(x, "bcd", 0), 3);
        same("turned round is another", build(x, "cb", 0), 4);
        String[] alike = {"bc", "ebc", "bbcc", "aabbaacc", "b", "ibi", "oc", "bacad", "bcddd", "caaaab", "cb"};
        for (String name : alike) {
            same("ship " + name, build(x, name, 0), NONE);
        }
        same("no letter at all is another", build(x, "a", 0), 5);
        soundIs(x, 5, "");
        Flaghall y = new Flaghall();
        y.person(0);
        same("ship u", build(y, "u", 0), 0);
        same("ship eieio sounds like it", build(y, "eieio", 0), NONE);
        same("ship h does not", build(y, "h", 0), 1);
        same("a sound of 8", build(y, "bcdfghjk", 0), 2);
        same("the same 8", build(y, "bcdfghjk", 0), NONE);
        same("the last of 8 is another", build(y, "bcdfghjl", 0), 3);
        same("the first of 8 is another", build(y, "ccdfghjk", 0), 4);
        same("7 of them", build(y, "bcdfghj", 0), 5);
    }

    /** "place: 0 for the first one", "Returns the letter; a blank beyond.", "or if place is below 0". */
    private static void soundPlaces() {
        Flaghall x = new Flaghall();
        refused("sound of no ship", INDEX, () -> x.sound(0, 0));
        x.person(0);
        build(x, "bcdfghjk", 0);
        build(x, "baa", 0);
        build(x, "e", 0);
        same("the first place", x.sound(0, 0), 'b');
        same("the last place of the longest", x.sound(0, 7), 'k');
        same("beyond the longest", x.sound(0, 8), ' ');
        same("the one letter", x.sound(1, 0), 'b');
        same("beyond it", x.sound(1, 1), ' ');
        same("beyond none", x.sound(2, 0), ' ');
        for (int ship = 0; ship < 3; ship++) {
            int asked = ship;
            for (int far : new int[] {9, 10, 64, MAX - 1, MAX}) {
                same("far beyond", x.sound(ship, far), ' ');
            }
            for (int bad : new int[] {-1, -2, MIN + 1, MIN}) {
                refused("place " + bad, INDEX, () -> x.sound(asked, bad));
            }
        }
        for (int bad : new int[] {MIN, -1, 3, 4, 6, MAX}) {
            refused("sound of ship " + bad, INDEX, () -> x.sound(bad, 0));
            refused("sound of ship " + bad + " beyond", INDEX, () -> x.sound(bad, MAX));
        }
    }

    // ---- shares and flags

    private static void flags() {
        sharesSold();
        sharesToOneself();
        moreThan32Shares();
        moreThan32SharesTogether();
        graceBySale();
        graceByParts();
        graceFromTheFirstLoss();
        graceOverBySale();
        graceOverByParts();
        theSameOneAgainBySale();
        theSameOneAgainByParts();
        graceOfEachShip();
        neverFlown();
        flyingAnother();
        flagBefore();
        noShipYet();
    }

    /** "A ship has 64 shares", "many: 1 to 64", "if the seller has not so many". */
    private static void sharesSold() {
        Flaghall x = harbour();
        for (int bad : new int[] {MIN, -64, -1, 0, 65, 66, MAX}) {
            refused("sell " + bad, ARGUMENT, () -> x.sell(0, 0, 1, bad));
            refused("sell " + bad + " of one who has none", ARGUMENT, () -> x.sell(0, 2, 1, bad));
        }
        refused("sell one of none", STATE, () -> x.sell(0, 1, 0, 1));
        refused("sell 64 of none", STATE, () -> x.sell(0, 1, 0, 64));
        same("sell 64 of 64", x.sell(0, 0, 3, 64), 64);
        same("the seller has none", x.share(0, 0), 0);
        same("the buyer has all", x.share(0, 3), 64);
        same("sell one", x.sell(0, 3, 0, 1), 1);
        refused("sell 64 of 63", STATE, () -> x.sell(0, 3, 1, 64));
        refused("sell two of one", STATE, () -> x.sell(0, 0, 1, 2));
        same("sell 62 of 63", x.sell(0, 3, 1, 62), 62);
        refused("sell two of one that is left", STATE, () -> x.sell(0, 3, 2, 2));
        same("sell the last one", x.sell(0, 3, 1, 1), 63);
        refused("sell one more", STATE, () -> x.sell(0, 3, 1, 1));
        same("all of them again", x.sell(0, 0, 1, 1), 64);
        for (int i = 0; i <= 3; i++) {
            same("shares of " + i, x.share(0, i), i == 1 ? 64 : 0);
        }
    }

    /** "if both parties are the same". */
    private static void sharesToOneself() {
        Flaghall x = harbour();
        for (int i = 0; i <= 3; i++) {
            int party = i;
            refused("party " + i + " to itself one", ARGUMENT, () -> x.sell(0, party, party, 1));
            refused("party " + i + " to itself 64", ARGUMENT, () -> x.sell(0, party, party, 64));
        }
        same("the shares stay", x.share(0, 0), 64);
        same("none come", x.share(0, 1), 0);
    }

    /** "A ship can fly the flag of a land, if more than 32 of its shares are of parties that are of that land." */
    private static void moreThan32Shares() {
        for (int land = 0; land <= 3; land++) {
            Flaghall x = harbour();
            int flown = land;
            int other = (land + 1) % 4;
            if (land != 0) {
                x.sell(0, 0, land, 64);
            }
            x.sell(0, land, other, 32);
            refused("32 shares of land " + land, STATE, () -> x.fly(0, flown));
            refused("32 shares of land " + other, STATE, () -> x.fly(0, other));
            same("it flies none", x.flag(0), NONE);
            x.sell(0, other, land, 1);
            refused("31 shares of land " + other, STATE, () -> x.fly(0, other));
            same("33 shares of land " + land, x.fly(0, land), NONE);
            same("it flies that", x.flag(0), land);
            refused("a land that has no share", STATE, () -> x.fly(0, (flown + 2) % 4));
        }
        for (int land = 0; land <= 3; land++) {
            Flaghall x = harbour();
            int flown = land;
            x.company();
            x.sell(0, 0, 4, 64);
            refused("all shares of a company of none", STATE, () -> x.fly(0, flown));
            x.sell(0, 4, land, 32);
            refused("32 shares of land " + land + ", the others of none", STATE, () -> x.fly(0, flown));
            x.sell(0, 4, land, 1);
            same("33 shares, the others of none", x.fly(0, land), NONE);
            x.sell(0, land, 4, 1);
            x.pass(GRACE);
            same("lost to one of none", x.flag(0), NONE);
        }
    }

    private static void moreThan32SharesTogether() {
        Flaghall x = harbour();
        for (int i = 4; i <= 8; i++) {
            x.person(1);
        }
        x.company();
        for (int i = 4; i <= 8; i++) {
            x.sell(0, 0, i, 6);
        }
        x.sell(0, 0, 9, 33);
        refused("33 of a company of none", STATE, () -> x.fly(0, 0));
        x.part(9, 1, 32);
        refused("and a company of 32 parts of a land", STATE, () -> x.fly(0, 1));
        x.part(9, 1, 33);
        same("and of 33", x.fly(0, 1), NONE);
        x.sell(0, 9, 0, 31);
        same("30 of people and two of the company", x.share(0, 9), 2);
        refused("make 32", STATE, () -> x.fly(0, 1));
        x.sell(0, 0, 9, 1);
        same("one more makes 33", x.fly(0, 1), 1);
        refused("the last party's shares count too", STATE, () -> x.fly(0, 0));
    }

    /** "If that is not so any more, by a sale [..], the grace begins", "90 days [..], as many minutes as these have or more". */
    private static void graceBySale() {
        for (int before : new int[] {0, 1, 777}) {
            for (int sold : new int[] {32, 33, 64}) {
                Flaghall x = harbour();
                x.fly(0, 0);
                if (before > 0) {
                    x.pass(before);
                }
                x.sell(0, 0, 1, sold);
                same("the grace begins", x.flag(0), 0);
                x.pass(GRACE - 1);
                same("the last minute of the grace", x.flag(0), 0);
                x.pass(1);
                same("90 days", x.flag(0), NONE);
                x.pass(1);
                same("a minute more", x.flag(0), NONE);
                passLong(x, 100000000);
                same("many more", x.flag(0), NONE);
            }
        }
        Flaghall y = harbour();
        y.fly(0, 0);
        y.sell(0, 0, 1, 31);
        y.pass(GRACE);
        same("33 shares begin no grace", y.flag(0), 0);
        y.pass(1000000);
        same("ever", y.flag(0), 0);
        y.sell(0, 0, 1, 1);
        y.pass(GRACE);
        same("one share less does", y.flag(0), NONE);
    }

    /** "or by parts, the grace begins": by those of the owner, and of one behind 4 others. */
    private static void graceByParts() {
        for (int owner = 1; owner <= 5; owner++) {
            Flaghall x = line();
            build(x, "b", owner);
            x.pass(owner);
            same("behind " + (owner - 1) + " others", x.fly(0, 2), NONE);
            x.part(1, 0, 33);
            x.pass(GRACE);
            same("33 parts begin no grace", x.flag(0), 2);
            x.part(1, 0, 32);
            same("32 parts do", x.flag(0), 2);
            x.pass(GRACE - 1);
            same("the last minute of the grace", x.flag(0), 2);
            x.pass(1);
            same("90 days", x.flag(0), NONE);
        }
        Flaghall y = line();
        build(y, "b", 6);
        y.sell(0, 6, 5, 33);
        y.sell(0, 6, 0, 31);
        y.fly(0, 2);
        y.part(2, 1, 0);
        y.pass(GRACE - 1);
        same("33 shares of one that lost its land", y.flag(0), 2);
        y.pass(1);
        same("the grace has gone by for them", y.flag(0), NONE);
        Flaghall z = line();
        build(z, "b", 5);
        z.fly(0, 2);
        z.part(9, 8, 0);
        z.part(9, 0, 64);
        z.part(1, 0, 32);
        z.part(1, 9, 32);
        z.pass(GRACE - 1);
        same("lost, as one more company is behind", z.flag(0), 2);
        z.pass(1);
        same("the grace has gone by then too", z.flag(0), NONE);
        z.part(1, 9, 31);
        z.part(1, 0, 33);
        same("33 of the person bring it back", z.flag(0), 2);
    }

    /** The grace begins when that is not so any more, and not anew by what comes in it. */
    private static void graceFromTheFirstLoss() {
        Flaghall x = harbour();
        x.company();
        x.fly(0, 0);
        x.sell(0, 0, 1, 32);
        x.pass(GRACE - 2);
        x.sell(0, 0, 1, 1);
        x.part(4, 0, 64);
        x.pass(1);
        x.sell(0, 1, 0, 1);
        x.part(4, 0, 0);
        refused("fly in the grace", STATE, () -> x.fly(0, 0));
        same("the last minute of the grace", x.flag(0), 0);
        x.pass(1);
        same("90 days from the first sale", x.flag(0), NONE);
    }

    /** "if it is so again, it is over": by a sale, up to the last minute. */
    private static void graceOverBySale() {
        Flaghall x = harbour();
        x.fly(0, 0);
        x.sell(0, 0, 1, 32);
        x.pass(GRACE - 1);
        x.sell(0, 1, 0, 1);
        same("33 again in the last minute", x.flag(0), 0);
        x.pass(1);
        same("it is over", x.flag(0), 0);
        x.pass(GRACE);
        same("for good", x.flag(0), 0);
        x.sell(0, 0, 1, 1);
        x.pass(GRACE - 1);
        same("another grace is whole", x.flag(0), 0);
        x.sell(0, 1, 0, 1);
        x.sell(0, 0, 1, 1);
        x.pass(GRACE - 1);
        same("and one that begins in the minute of the last one's end", x.flag(0), 0);
        x.pass(1);
        same("goes by too", x.flag(0), NONE);
        Flaghall y = harbour();
        y.fly(0, 0);
        y.sell(0, 0, 1, 33);
        y.pass(GRACE - 1);
        y.sell(0, 1, 0, 1);
        y.pass(1);
        same("32 again are not enough", y.flag(0), NONE);
        Flaghall z = harbour();
        z.fly(0, 0);
        z.sell(0, 0, 1, 32);
        z.sell(0, 1, 0, 1);
        z.pass(GRACE);
        same("lost and so again in one minute", z.flag(0), 0);
    }

    /** "if it is so again, it is over": by parts. */
    private static void graceOverByParts() {
        Flaghall x = line();
        build(x, "b", 5);
        x.fly(0, 2);
        x.part(1, 0, 32);
        x.pass(GRACE - 1);
        x.part(1, 0, 33);
        x.pass(1);
        same("33 parts again in the last minute", x.flag(0), 2);
        x.part(1, 0, 0);
        x.pass(GRACE - 1);
        same("another grace is whole", x.flag(0), 2);
        x.part(1, 0, 32);
        x.pass(1);
        same("32 parts again are not enough", x.flag(0), NONE);
        Flaghall y = line();
        build(y, "b", 5);
        y.fly(0, 2);
        y.sell(0, 5, 6, 32);
        y.pass(GRACE - 1);
        y.part(6, 5, 0);
        y.part(6, 4, 64);
        y.pass(1);
        same("lost by a sale, so again by parts", y.flag(0), 2);
    }

    /** "it has the same one again, if it is so again": by a sale, however long after. */
    private static void theSameOneAgainBySale() {
        for (int late : new int[] {0, 1, 100000000}) {
            Flaghall x = harbour();
            x.fly(0, 0);
            x.sell(0, 0, 1, 64);
            passLong(x, GRACE + late);
            same("lost", x.flag(0), NONE);
            x.sell(0, 1, 0, 32);
            same("32 shares do not bring it back", x.flag(0), NONE);
            x.sell(0, 1, 0, 1);
            same("33 do", x.flag(0), 0);
            x.pass(GRACE);
            same("for good", x.flag(0), 0);
            x.sell(0, 0, 1, 1);
            same("it may be lost again", x.flag(0), 0);
            x.pass(GRACE - 1);
            same("with a grace of its own", x.flag(0), 0);
            x.pass(1);
            same("which goes by", x.flag(0), NONE);
        }
        Flaghall y = harbour();
        y.fly(0, 0);
        y.sell(0, 0, 1, 64);
        y.pass(GRACE);
        same("the land that has most now is not flown by itself", y.flag(0), NONE);
        y.sell(0, 1, 2, 64);
        y.sell(0, 2, 0, 64);
        same("the same one, not the one between", y.flag(0), 0);
    }

    private static void theSameOneAgainByParts() {
        Flaghall x = line();
        build(x, "b", 5);
        x.fly(0, 2);
        x.part(1, 0, 32);
        x.pass(GRACE);
        same("lost", x.flag(0), NONE);
        x.part(1, 0, 33);
        same("again by parts", x.flag(0), 2);
        x.part(5, 4, 32);
        x.pass(GRACE + 1);
        same("lost again", x.flag(0), NONE);
        x.part(5, 4, 33);
        same("again by other parts", x.flag(0), 2);
        x.pass(GRACE);
        same("for good", x.flag(0), 2);
    }

    private static void graceOfEachShip() {
        Flaghall x = new Flaghall();
        x.person(0);
        x.person(1);
        x.company();
        x.part(2, 0, 64);
        String names = "bcdfgh";
        for (int i = 0; i < 6; i++) {
            build(x, names.substring(i, i + 1), i % 2 == 0 ? 2 : 0);
            x.fly(i, 0);
        }
        x.part(2, 0, 32);
        x.pass(1);
        x.sell(1, 0, 1, 32);
        x.pass(GRACE - 2);
        for (int i = 0; i < 6; i++) {
            same("all fly, ship " + i, x.flag(i), 0);
        }
        x.pass(1);
        for (int i = 0; i < 6; i++) {
            same("those of the company do not, ship " + i, x.flag(i), i % 2 == 0 ? NONE : 0);
        }
        x.pass(1);
        for (int i = 0; i < 6; i++) {
            same("nor does the sold one, ship " + i, x.flag(i), i % 2 == 0 || i == 1 ? NONE : 0);
        }
        x.part(2, 0, 33);
        for (int i = 0; i < 6; i++) {
            same("those of the company again, ship " + i, x.flag(i), i == 1 ? NONE : 0);
        }
    }

    /** A ship has no flag before one is flown, whoever has it. */
    private static void neverFlown() {
        Flaghall x = harbour();
        same("built", x.flag(0), NONE);
        x.sell(0, 0, 1, 64);
        same("sold", x.flag(0), NONE);
        x.pass(GRACE);
        x.sell(0, 1, 0, 64);
        same("sold back", x.flag(0), NONE);
        refused("fly what it can not", STATE, () -> x.fly(0, 1));
        same("refused", x.flag(0), NONE);
        x.pass(1000000);
        same("waited", x.flag(0), NONE);
    }

    /** Another flag ends the grace of the one before, which does not come back then. */
    private static void flyingAnother() {
        Flaghall x = harbour();
        x.fly(0, 0);
        x.sell(0, 0, 3, 33);
        x.pass(GRACE - 1);
        same("another in the last minute of the grace", x.fly(0, 3), 0);
        x.pass(1);
        same("it stays", x.flag(0), 3);
        x.sell(0, 3, 0, 1);
        same("its own grace", x.flag(0), 3);
        x.pass(GRACE - 1);
        same("is whole", x.flag(0), 3);
        x.sell(0, 3, 0, 32);
        same("the one before does not come by itself", x.flag(0), 3);
        x.pass(1);
        same("even when this one is lost", x.flag(0), NONE);
        x.sell(0, 0, 3, 33);
        same("the last one comes again", x.flag(0), 3);
    }

    /** "Returns the flag before, as flag() tells it." */
    private static void flagBefore() {
        Flaghall x = harbour();
        same("none before", x.fly(0, 0), NONE);
        same("the same before", x.fly(0, 0), 0);
        x.sell(0, 0, 1, 33);
        x.pass(GRACE - 1);
        same("the other in the last minute of its grace", x.fly(0, 1), 0);
        x.sell(0, 1, 2, 33);
        x.pass(GRACE);
        x.sell(0, 0, 2, 31);
        same("none when the grace has gone by", x.fly(0, 2), NONE);
        same("the last one before", x.fly(0, 2), 2);
        refused("the one before it can not be", STATE, () -> x.fly(0, 1));
        same("it flies the last one", x.flag(0), 2);
    }

    /** "Begins [..] without parties and ships", and ships that are numbered from 0. */
    private static void noShipYet() {
        Flaghall x = new Flaghall();
        x.person(0);
        x.person(1);
        for (int count = 0; count <= 2; count++) {
            for (int bad : new int[] {MIN, -1, count, 6, MAX}) {
                refused("flag of ship " + bad, INDEX, () -> x.flag(bad));
                refused("share of ship " + bad, INDEX, () -> x.share(bad, 0));
                refused("sell ship " + bad, INDEX, () -> x.sell(bad, 0, 1, 1));
                refused("fly ship " + bad, INDEX, () -> x.fly(bad, 0));
            }
            x.letter((char) ('b' + count));
            same("ship " + count, x.ship(0), count);
            same("share of it", x.share(count, 0), 64);
            same("fly it", x.fly(count, 0), NONE);
            for (int bad : new int[] {MIN, -1, 2, 10, MAX}) {
                int ship = count;
                refused("share of party " + bad, INDEX, () -> x.share(ship, bad));
                refused("sell from " + bad, INDEX, () -> x.sell(ship, bad, 0, 1));
                refused("sell to " + bad, INDEX, () -> x.sell(ship, 0, bad, 1));
                refused("ship of " + bad, INDEX, () -> x.ship(bad));
            }
        }
    }

    // ---- minutes and calls

    private static void minutes() {
        minutesGoBy();
        theLastCall();
    }

    /** "Minutes are counted from 0", "minutes: 1 to 1000000". */
    private static void minutesGoBy() {
        Flaghall x = new Flaghall();
        for (int bad : new int[] {MIN, -1000000, -1, 0, 1000001, 1000002, MAX}) {
            refused("minutes " + bad, ARGUMENT, () -> x.pass(bad));
        }
        same("the first minute", x.pass(1), 1);
        same("two more", x.pass(2), 3);
        same("the most less one", x.pass(999999), 1000002);
        same("the most", x.pass(1000000), 2000002);
        for (int bad : new int[] {MIN, -1, 0, 1000001, MAX}) {
            refused("minutes " + bad + " then", ARGUMENT, () -> x.pass(bad));
        }
        same("the last minute", x.pass(1), 2000003);
    }

    /** "An object is used for at most 512 calls": the last one is answered as the others. */
    private static void theLastCall() {
        Flaghall x = new Flaghall();
        for (int i = 1; i <= 512; i++) {
            same("minutes after " + i + " calls", x.pass(1000000), 1000000L * i);
        }
        Flaghall y = harbour();
        y.fly(0, 0);
        y.sell(0, 0, 1, 32);
        for (int i = 9; i <= 509; i++) {
            same("flag in call " + i, y.flag(0), 0);
        }
        same("call 510", y.pass(GRACE), GRACE);
        same("call 511", y.flag(0), NONE);
        same("call 512", y.sell(0, 1, 0, 1), 33);
    }
}
