import java.util.function.ToIntFunction;

/** Term I and promises 1 to 5: each bound of the TAPE and of the text, on it, just inside, just outside. */
public final class TextBoundsTest {
    private static final String L = "line long 50;";
    private static final String P = "platform at 0 to 50;";
    private static final String K = "kind long 1 roll 0 brakes 1 2 3;";
    private static final String T = "train starts 0 speed 15 loses 0;";
    private static final Due DUE = new Due();

    public static void main(String[] args) {
        tapeFull();
        tapeEnds();
        bytesOfNumbers();
        boundsOfLine();
        boundsOfKindsAndTrains();
        boundsOfCoaches();
        hugeNumbers();
        howMany();
        firstClause();
        everyByte();
        everyToken();
        everyLetter();
        placesOfTheEnd();
        firstByPlace();
        toldAhead();
        latestTrain();
        replaced();
        allStays();
        faultOfTheLatest();
        DUE.close("TextBoundsTest");
    }

    /** Promise 2: 1,600 are not more than 1,600; of 1,601 none come. */
    private static void tapeFull() {
        int[] ahead = {0, 1, 1559, 1560, 1561, 1579, 1580, 1581, 1599, 1600};
        for (int n : ahead) {
            SlipCoach x = new SlipCoach();
            fill(x, n);
            boolean fits = n + 20 <= 1600;
            DUE.is("feed behind " + n, x.feed(0, -1, 1, Integer.MAX_VALUE, Integer.MIN_VALUE), fits ? n + 20 : -1);
            DUE.is("bytes behind " + n, x.count(6), fits ? n + 20 : n);
        }
        SlipCoach x = new SlipCoach();
        String text = L + " ".repeat(1600 - L.length());
        Due.tape(x, text);
        DUE.is("a full TAPE", x.count(6), 1600);
        DUE.is("none come", x.feed(-1, -1, -1, -1, -1), -1);
        DUE.is("the text is as it was", x.line(), 1);
        DUE.is("the text is as it was", x.count(0), 50);
        DUE.is("empty then", x.count(6), 0);
        DUE.is("empty then", x.feed(0, 0, 0, 0, 0), 20);
        String last = L + " ".repeat(1600 - L.length() - P.length()) + P;
        DUE.is("the 1,600th byte is read", Due.told(last).count(2), 1);
    }

    private static void fill(SlipCoach x, int n) {
        for (int i = 0; i < n; i += 20) {
            x.feed(0x20202020, 0x20202020, 0x20202020, 0x20202020, 0x20202020);
        }
        x.end(n);
    }

    /** Promise 3: not so many, below 0. */
    private static void tapeEnds() {
        int[] sizes = {0, 1, 20, 39, 1600};
        for (int size : sizes) {
            int[] ends = {-1, 0, 1, size - 1, size, size + 1, 1601, Integer.MAX_VALUE, Integer.MIN_VALUE};
            for (int n : ends) {
                SlipCoach x = new SlipCoach();
                fill(x, size);
                boolean may = n >= 0 && n <= size;
                DUE.is("end(" + n + ") of " + size, x.end(n), may ? n : -1);
                DUE.is("bytes behind end(" + n + ") of " + size, x.count(6), may ? n : size);
            }
        }
        SlipCoach x = new SlipCoach();
        Due.tape(x, L + P + "slope");
        DUE.is("not so many", x.end(L.length() + P.length() + 6), -1);
        DUE.is("its first bytes alone", x.end(L.length() + P.length()), L.length() + P.length());
        DUE.is("and no more", x.end(L.length() + P.length() + 1), -1);
        DUE.is("what was cut off is not read", x.line(), 1);
        DUE.is("what was left is read", x.count(2), 1);
        cutWithinTokens();
    }

    /** What was cut off a word or a number is no part of it. */
    private static void cutWithinTokens() {
        SlipCoach x = new SlipCoach();
        Due.tape(x, "lines long 201;");
        x.end(4);
        DUE.is("the word line alone", x.line(), -4);
        DUE.is("the end's FAULT", x.fault(0), 1);
        DUE.is("the end's place", x.fault(1), 4);
        Due.tape(x, "line long 201;");
        x.end(12);
        DUE.is("the number 20 alone", x.line(), -4);
        DUE.is("the end's FAULT", x.fault(0), 1);
        DUE.is("the end's place", x.fault(1), 12);
        x.feed(0x3b202020, 0x20202020, 0x20202020, 0x20202020, 0x20202020);
        DUE.is("a sign behind it", x.line(), 1);
        DUE.is("a sign behind it", x.count(0), 20);
        fault("a".repeat(1600), 1, 0);
        fault("line long " + "0".repeat(1588) + "20", 1, 1600);
        DUE.is("the longest number", Due.told("line long " + "0".repeat(1587) + "20;").count(0), 20);
        fault("line long " + "9".repeat(1589) + ";", 2, 10);
    }

    /** Promise 2: four of each number, the highest first. */
    private static void bytesOfNumbers() {
        String twenty = "line long 123; slope";
        SlipCoach x = new SlipCoach();
        x.feed(0x6c696e65, 0x206c6f6e, 0x67203132, 0x333b2073, 0x6c6f7065);
        x.end(14);
        DUE.is("as " + twenty, x.line(), 1);
        DUE.is("as " + twenty, x.count(0), 123);
        // A byte of 128 and more is none of a TOKEN, whatever its sign.
        for (int place = 0; place < 4; place++) {
            x.feed(0x20202020, 0x20202020 | 0x80 << 8 * (3 - place), -1, -1, -1);
            DUE.is("a high byte", x.line(), -4);
            DUE.is("a high byte", x.fault(0), 1);
            DUE.is("a high byte", x.fault(1), 4 + place);
            x.end(0);
        }
    }

    /** On low and high, just inside, just outside; what is taken shows by an answer. */
    private static void bound(String ahead, String behind, int low, int high, ToIntFunction<SlipCoach> shown) {
        int[] tried = {low - 1, low, low + 1, (low + high) / 2, high - 1, high, high + 1, high + 10, 1000};
        for (int n : tried) {
            if (n >= 0) {
                String text = ahead + n + behind;
                if (n >= low && n <= high) {
                    taken(text, n, shown);
                    taken(ahead + "0".repeat(30) + n + behind, n, shown);
                } else {
                    fault(text, 2, ahead.length());
                }
            }
        }
        fault(ahead + "-" + low + behind, 1, ahead.length());
        // Without the number another TOKEN stands in its place; of two numbers too few, the sign.
        boolean more = Character.isDigit(behind.trim().charAt(0));
        fault(ahead + behind, 1, (ahead + behind).indexOf(more ? ";" : behind.trim(), ahead.length()));
    }

    private static void taken(String text, int n, ToIntFunction<SlipCoach> shown) {
        SlipCoach x = new SlipCoach();
        Due.tape(x, text);
        DUE.is("line() of " + text, x.line(), 1);
        DUE.is("fault(0) of " + text, x.fault(0), 0);
        DUE.is("fault(1) of " + text, x.fault(1), -1);
        DUE.is("what is taken of " + text, shown.applyAsInt(x), n);
    }

    private static void fault(String text, int what, int place) {
        SlipCoach x = new SlipCoach();
        Due.tape(x, text);
        DUE.is("line() of " + text, x.line(), -4);
        DUE.is("fault(0) of " + text, x.fault(0), what);
        DUE.is("fault(1) of " + text, x.fault(1), place);
    }

    /** The first YARD whose answer is not this one. */
    private static int firstYardNot(SlipCoach x, int what, int usual) {
        int yard = 0;
        while (yard < 50 && x.yard(yard, what) == usual) {
            yard++;
        }
        return yard;
    }

    private static int lastYardNot(SlipCoach x, int what, int usual) {
        int yard = 50;
        while (yard > 0 && x.yard(yard, what) == usual) {
            yard--;
        }
        return yard;
    }

    private static void boundsOfLine() {
        bound("line long ", ";", 20, 400, x -> x.count(0));
        bound(L + "slope at ", " up 3;", 0, 50, x -> firstYardNot(x, 0, 10));
        bound(L + "slope at ", " down 3;", 0, 50, x -> firstYardNot(x, 0, 10));
        bound(L + "slope at 0 up ", ";", 0, 9, x -> x.yard(0, 0) - 10);
        bound(L + "slope at 0 down ", ";", 0, 9, x -> 10 - x.yard(0, 0));
        bound(L + "wet at ", " to 50 by 5;", 0, 50, x -> firstYardNot(x, 1, 0));
        bound(L + "wet at 0 to ", " by 5;", 0, 50, x -> lastYardNot(x, 1, 0));
        bound(L + "wet at 7 to ", " by 5;", 7, 50, x -> lastYardNot(x, 1, 0));
        bound(L + "wet at 50 to ", " by 5;", 50, 50, x -> lastYardNot(x, 1, 0));
        bound(L + "wet at 0 to 50 by ", ";", 0, 100, x -> x.yard(50, 1));
        bound(L + "limit at ", " of 5;", 0, 50, x -> firstYardNot(x, 2, 15));
        bound(L + "limit at 0 of ", ";", 1, 15, x -> x.yard(0, 2));
        bound(L + K + "platform at ", " to 50;", 0, 50, x -> 49 - x.room(0, 0));
        bound(L + K + "platform at 0 to ", ";", 0, 50, x -> 1 + x.room(0, 0));
        bound(L + K + "platform at 7 to ", ";", 7, 50, x -> 8 + x.room(0, 0));
        bound(L + K + "platform at 50 to ", ";", 50, 50, x -> 51 + x.room(0, 0));
    }

    private static void boundsOfKindsAndTrains() {
        bound(L + P + "kind long ", " roll 0 brakes 1 2 3;", 1, 30, x -> 50 - x.room(0, 0));
        bound(L + "kind long 1 roll ", " brakes 1 2 3;", 0, 3, x -> 15 - x.tick(0, 0, 15, 0, 1));
        bound(L + "kind long 1 roll 0 brakes ", " 2 3;", 1, 9, x -> 15 - x.tick(0, 0, 15, 1, 1));
        bound(L + "kind long 1 roll 0 brakes 1 ", " 3;", 1, 9, x -> 15 - x.tick(0, 0, 15, 2, 1));
        bound(L + "kind long 1 roll 0 brakes 1 2 ", ";", 1, 9, x -> 15 - x.tick(0, 0, 15, 3, 1));
        bound(L + "train starts ", " speed 1 loses 0;", 0, 300, x -> x.passes(0, 0));
        bound(L + "train starts 0 speed ", " loses 0;", 1, 15, x -> x.pulls(0, 0, 0));
        bound(L + "train starts 0 speed 15 loses ", ";", 0, 5, x -> 15 - x.pulls(0, 0, 1));
    }

    private static void boundsOfCoaches() {
        bound(L + P + K + T + "coach ", " for 0 at 0;", 0, 0, x -> x.coach(0, 1));
        bound(L + P + K.repeat(3) + T + "coach ", " for 0 at 0;", 0, 2, x -> x.coach(0, 1));
        bound(L + P + K + T + "coach 0 for ", " at 0;", 0, 0, x -> x.coach(0, 2));
        bound(L + P.repeat(6) + K + T + "coach 0 for ", " at 0;", 0, 5, x -> x.coach(0, 2));
        bound(L + P + K + T + "coach 0 for 0 at ", ";", 0, 50, x -> x.coach(0, 3));
        bound("line long 20;platform at 0 to 20;" + K + T + "coach 0 for 0 at ", ";", 0, 20, x -> x.coach(0, 3));
    }

    /** A number that wraps around to one in bounds is out of them. */
    private static void hugeNumbers() {
        String[] huge = {"2147483647", "2147483648", "2147483668", "4294967296", "4294967346", "4294967300",
            "18446744073709551616", "18446744073709551636", "100000", "100020", "1000000000000000000000000020"};
        for (String n : huge) {
            fault("line long " + n + ";", 2, 10);
            fault(L + "slope at " + n + " up 1;", 2, 22);
            fault(L + "slope at 0 up " + n + ";", 2, 27);
            fault(L + P + K + T + "coach " + n + " for 0 at 0;", 2, (L + P + K + T).length() + 6);
        }
    }

    private static void tooMany(String ahead, String clause, int most, int count) {
        for (int n = most - 1; n <= most; n++) {
            SlipCoach x = Due.told(ahead + clause.repeat(n));
            DUE.is(n + " of " + clause, x.fault(0), 0);
            if (count >= 0) {
                DUE.is(n + " of " + clause, x.count(count), n);
            }
        }
        String full = ahead + clause.repeat(most);
        String word = clause.substring(0, clause.indexOf(' '));
        fault(full + clause, 3, full.length());
        fault(full + " \n" + word, 3, full.length() + 2);
        fault(full + word + " ;", 3, full.length());
        fault(full + word + "!", 3, full.length());
        fault(full + clause + clause, 3, full.length());
        // What is wrong ahead of it comes first, what is wrong behind it does not.
        fault(full + "; " + clause, 1, full.length());
        fault(full + word + "s", 1, full.length());
        // A number out of bounds ahead of it comes first.
        fault(full + "slope at 51 up 0;" + clause, word.equals("slope") ? 3 : 2,
                full.length() + (word.equals("slope") ? 0 : 9));
    }

    private static void howMany() {
        tooMany(L, "slope at 0 up 1;", 8, -1);
        tooMany(L, "wet at 0 to 1 by 1;", 6, -1);
        tooMany(L, "limit at 0 of 1;", 6, -1);
        tooMany(L, P, 6, 2);
        tooMany(L, K, 4, 1);
        tooMany(L, T, 5, 3);
        tooMany(L + P + K + T, "coach 0 for 0 at 0;", 16, 4);
        // 16 are the most of all TRAINS together.
        String coach = "coach 0 for 0 at 0;";
        String two = L + P + K + T + coach.repeat(9) + T + coach.repeat(7);
        DUE.is("16 of two TRAINS", Due.told(two).count(4), 16);
        fault(two + coach, 3, two.length());
        fault(two + T + coach, 3, two.length() + T.length());
        // The 8th slope, the 6th wet and limit count as the first did.
        SlipCoach x = Due.told(L + "slope at 0 up 1;".repeat(7) + "slope at 9 down 9;" + "wet at 0 to 1 by 1;".repeat(5)
                + "wet at 9 to 9 by 99;" + "limit at 0 of 2;".repeat(5) + "limit at 9 of 1;");
        int[] due = {1, 99, 1};
        for (int what = 0; what < 3; what++) {
            DUE.is("the last one told " + what, x.yard(9, what), due[what]);
        }
    }

    /** line is the first CLAUSE and no other. */
    private static void firstClause() {
        String[] words = {"slope", "wet", "limit", "platform", "kind", "train", "coach", "long", "at", "lin", "liner"};
        for (String word : words) {
            fault(word, 1, 0);
            fault("\n " + word + " long 20;", 1, 2);
        }
        fault("line long 20;line long 20;", 1, 13);
        fault("line long 20; line", 1, 14);
        fault("line long 20;slope at 0 up 1;line", 1, 29);
        fault(";", 1, 0);
        fault("0", 1, 0);
        fault("line line", 1, 5);
        fault("line;", 1, 4);
        String[] none = {"", " ", "\n", "  \n \n"};
        for (String text : none) {
            SlipCoach x = Due.told(L);
            Due.tape(x, text);
            DUE.is("a text of no CLAUSE", x.line(), Worlds.linesOf(text));
            DUE.is("no LINE then", x.count(0), 0);
            DUE.is("no LINE then", x.good(), -1);
            DUE.is("no LINE then", x.yard(0, 0), -2);
        }
    }

    /** TOKENS: blanks are 32 and 10, letters a to z, digits 0 to 9, the sign; nothing else is any. */
    private static void everyByte() {
        for (int b = 0; b < 256; b++) {
            String c = String.valueOf((char) b);
            boolean blank = b == 32 || b == 10;
            boolean letter = b >= 97 && b <= 122;
            boolean digit = b >= 48 && b <= 57;
            String word = "line" + c + "long 20;";
            if (blank) {
                DUE.is("byte " + b + " in " + word, Due.told(word).count(0), 20);
                DUE.is("byte " + b + " behind all", Due.told("line long 20;" + c).count(0), 20);
                DUE.is("byte " + b + " ahead of all", Due.told(c + "line long 20;").count(0), 20);
            } else {
                fault(word, 1, letter ? 0 : 4);
                fault("line long 20;" + c, 1, 13);
                fault(c + "line long 20;", 1, 0);
            }
            String number = "line long 2" + c + "5;";
            if (digit) {
                DUE.is("byte " + b + " in a number", Due.told(number).count(0), 205 + 10 * (b - 48));
            } else {
                fault(number, 2, 10);
            }
            String sign = "line long 20" + c;
            if (b == 59) {
                DUE.is("the sign", Due.told(sign).count(0), 20);
            } else if (digit) {
                fault(sign, 1, 13);
            } else {
                fault(sign, 1, blank ? 13 : 12);
            }
        }
    }

    /** Each TOKEN of each CLAUSE once wrong, once missing, once the last. */
    private static void everyToken() {
        String ahead = L + P + K + T;
        String[] clauses = {"slope at 0 up 1 ;", "slope at 0 down 1 ;", "wet at 0 to 1 by 1 ;", "limit at 0 of 1 ;",
            "platform at 0 to 1 ;", "kind long 1 roll 0 brakes 1 1 1 ;", "train starts 0 speed 1 loses 0 ;",
            "coach 0 for 0 at 0 ;"};
        for (String clause : clauses) {
            String[] tokens = clause.split(" ");
            DUE.is(clause, Due.told(ahead + clause).fault(0), 0);
            String before = ahead;
            for (int i = 0; i < tokens.length; i++) {
                String rest = clause.substring(clause.length() - restLength(tokens, i));
                boolean number = tokens[i].charAt(0) <= '9';
                fault(before + (number ? "zz" : "7") + rest, 1, before.length());
                fault(before + "." + rest, 1, before.length());
                if (i > 0) {
                    fault(before.trim(), 1, before.trim().length());
                    fault(before, 1, before.length());
                }
                before = before + tokens[i] + " ";
            }
        }
        fault("line at 20;", 1, 5);
        fault("line long long;", 1, 10);
        fault("line long 20 20;", 1, 13);
    }

    /** Each letter of each word counts: one that is another makes it another word, which can't stand there. */
    private static void everyLetter() {
        String text = "line long 50;slope at 0 up 1;slope at 0 down 1;wet at 0 to 1 by 1;limit at 0 of 1;platform at 0 to 1;"
                + "kind long 1 roll 0 brakes 1 1 1;train starts 0 speed 1 loses 0;coach 0 for 0 at 0;";
        DUE.is("as it is", Due.told(text).count(4), 1);
        int word = 0;
        for (int i = 0; i < text.length(); i++) {
            char c = text.charAt(i);
            if (c >= 'a' && c <= 'z') {
                word = i > 0 && text.charAt(i - 1) >= 'a' && text.charAt(i - 1) <= 'z' ? word : i;
                fault(text.substring(0, i) + (c == 'z' ? 'a' : (char) (c + 1)) + text.substring(i + 1), 1, word);
                fault(text.substring(0, i) + (c == 'a' ? 'z' : (char) (c - 1)) + text.substring(i + 1), 1, word);
                fault(text.substring(0, i) + (char) (c - 32) + text.substring(i + 1), 1, word);
            }
        }
    }

    private static int restLength(String[] tokens, int i) {
        int length = 0;
        for (int j = i + 1; j < tokens.length; j++) {
            length += 1 + tokens[j].length();
        }
        return length;
    }

    /** The end's place is behind the last byte, blanks too. */
    private static void placesOfTheEnd() {
        fault("line", 1, 4);
        fault("line ", 1, 5);
        fault("line long 20 \n\n", 1, 15);
        fault("line long 20; slope at 3 up 1", 1, 29);
        String full = L + "slope at 0 up 1" + " ".repeat(1600 - L.length() - 15);
        fault(full, 1, 1600);
    }

    /** The first by its place, whatever its number; of one place the least. */
    private static void firstByPlace() {
        fault("line long 19 slope", 2, 10);
        fault("line long 19", 2, 10);
        fault("line long 20;slope at 21 down 10;", 2, 22);
        fault("line long 20;slope at 20 by 10;", 1, 25);
        fault("line long 20;kind long 31 roll x", 2, 23);
        fault("line long 20;coach x", 2, 13);
        fault("line long 20;coach", 2, 13);
        fault("line long 20;coaches", 1, 13);
        fault("line long 20;" + P.replace("50", "20").repeat(6) + "coach 0 for", 2, 133);
    }

    /** K a KIND, P a PLATFORM told ahead; a TRAIN is told ahead of the word coach. */
    private static void toldAhead() {
        fault(L + P + T + "coach 0 for 0 at 0;" + K, 2, (L + P + T).length() + 6);
        fault(L + K + T + "coach 0 for 0 at 0;" + P, 2, (L + K + T).length() + 12);
        fault(L + P + K + "coach 0 for 0 at 0;" + T, 2, (L + P + K).length());
        fault(L + P + K + T + "coach 1 for 0 at 0;" + K, 2, (L + P + K + T).length() + 6);
        fault(L + P + K + T + "coach 0 for 1 at 0;" + P, 2, (L + P + K + T).length() + 12);
        DUE.is("TRAIN ahead of KIND and PLATFORM", Due.told(L + T + K + P + "coach 0 for 0 at 0;").count(4), 1);
    }

    /** It is of the latest TRAIN, behind its others. */
    private static void latestTrain() {
        SlipCoach x = Due.told(L + T + K + P + "coach 0 for 0 at 9;" + T + T
                + "coach 0 for 0 at 8;slope at 0 up 0;coach 0 for 0 at 7;");
        int[][] due = {{0, 0}, {2, 0}, {2, 1}};
        for (int c = 0; c < 3; c++) {
            DUE.is("TRAIN of " + c, x.coach(c, 0), due[c][0]);
            DUE.is("ahead of " + c, x.coach(c, 4), due[c][1]);
        }
    }

    /** Promise 4: in place of another; RAIN is 0 then; the TAPE is empty then. */
    private static void replaced() {
        SlipCoach x = Due.told(L + P + K + T + "coach 0 for 0 at 9;slope at 0 up 9;wet at 0 to 50 by 9;limit at 0 of 9;");
        x.rain(100);
        Due.tape(x, "line\n long 20\n;\n");
        DUE.is("line()", x.line(), 3);
        int[] due = {20, 0, 0, 0, 0, 3, 0, 0, 0};
        for (int what = 0; what < due.length; what++) {
            DUE.is("count " + what + " of the new LINE", x.count(what), due[what]);
        }
        DUE.is("no slope of the old one", x.yard(0, 0), 10);
        DUE.is("no wet of the old one", x.yard(0, 1), 0);
        DUE.is("no limit of the old one", x.yard(0, 2), 15);
        DUE.is("the old YARDS are none", x.yard(21, 0), -2);
        DUE.is("RAIN was 0", x.rain(5), 0);
    }

    /** Promise 4: behind -4 LINE, RAIN and TAPE are as they were; behind the next line() they are not. */
    private static void allStays() {
        SlipCoach x = Due.told(L + P + K + T + "coach 0 for 0 at 9;");
        x.rain(30);
        x.post(0, 11);
        x.shift(0, 12);
        String text = "line long 60;\nslope at 61 up 1;";
        Due.tape(x, text);
        for (int times = 0; times < 2; times++) {
            DUE.is("line()", x.line(), -4);
            DUE.is("FAULT", x.fault(0), 2);
            DUE.is("place", x.fault(1), 23);
            int[] due = {50, 1, 1, 1, 1, 1, text.length(), 30, 0};
            for (int what = 0; what < due.length; what++) {
                DUE.is("all stays: count " + what, x.count(what), due[what]);
            }
            DUE.is("all stays: POST", x.coach(0, 3), 11);
            DUE.is("all stays: START", x.passes(0, 0), 12);
            DUE.is("all stays: SLOPE", x.yard(50, 0), 10);
            DUE.is("all stays: long", x.yard(51, 0), -2);
        }
        DUE.is("the TAPE may be cut", x.end(14), 14);
        DUE.is("and be read then", x.line(), 1);
        DUE.is("and be read then", x.count(0), 60);
        DUE.is("RAIN is 0 then", x.count(7), 0);
        DUE.is("the TAPE is empty then", x.count(6), 0);
    }

    /** Promise 5: of the latest line(), 0 and NONE without; what other, and ahead of any. */
    private static void faultOfTheLatest() {
        int[] others = {-1, 2, 3, Integer.MAX_VALUE, Integer.MIN_VALUE};
        SlipCoach x = new SlipCoach();
        Due.tape(x, "liner");
        for (int state = 0; state < 4; state++) {
            int[][] due = {{0, -1}, {1, 0}, {0, -1}, {2, 10}};
            DUE.is("fault(0) in state " + state, x.fault(0), due[state][0]);
            DUE.is("fault(1) in state " + state, x.fault(1), due[state][1]);
            for (int what : others) {
                DUE.is("fault(" + what + ") in state " + state, x.fault(what), -1);
            }
            x.keep(0);
            x.back(0);
            x.feed(1, 2, 3, 4, 5);
            DUE.is("no other call alters it", x.fault(1), due[state][1]);
            if (state > 0) {
                Due.tape(x, state == 1 ? L : "line long 5;");
            } else {
                x.end(5);
            }
            x.line();
        }
    }
}
