import java.math.BigInteger;

/** Of the sentences under "Terms", the ones about signatures and commands. */
final class TermsOfCommands {
    private static final int TERMS = Sentences.TERMS;

    private static final String[] KEYWORDS = {"tree ", "fell ", "bench ", "party ", "move ", "wind ", "throw ", "buy ",
        "hear ", "pass "};

    /** Ends with a whole command, if it begins as a command text does. */
    private static final String WHOLE = "(.*;)?((tree|fell|bench|party|wind) \\d\\d|move \\d@\\d\\d|throw \\d#\\d\\d?"
            + "|(buy|pass) \\d\\d?|hear \\d)";

    private TermsOfCommands() {
    }

    static void test() {
        signatures();
        texts();
        forms();
        calls();
        errorPositions();
    }

    private static void signatures() {
        Sentences.test(TERMS, "Signatures are 64-bit integers in two's complement; sums and products are taken modulo 2 "
                + "to the power of 64.", c -> {
            c.setTree(4, 7, true);
            Check.due("31 times 2 to the power of 60", -(1L << 60), () -> c.signature());
            c.setTree(7, 7, true);
            c.setTree(4, 7, false);
            Check.due("31 times 2 to the power of 63", Long.MIN_VALUE, () -> c.signature());
            for (int party = 0; party < 8; party++) {
                c.addParty(party, 6);
            }
            BigInteger signature = BigInteger.TWO.pow(63).multiply(BigInteger.valueOf(31));
            for (int cell = 48; cell < 56; cell++) {
                signature = signature.xor(BigInteger.TWO.pow(cell)).multiply(BigInteger.valueOf(31));
            }
            long rest = signature.longValue();
            Check.due("eight parties", rest, () -> c.signature());
        });
        Sentences.test(TERMS, "The signature is treeBits() multiplied by 31.", c -> {
            Check.due("no trees", 0L, () -> c.signature());
            c.setTree(1, 0, true);
            Check.due("cell 1", 62L, () -> c.signature());
            c.setTree(2, 0, true);
            Check.due("cells 1 and 2", 186L, () -> c.signature());
            c.setBench(5, 5);
            c.setTree(0, 0, true);
            Check.due("cells 0, 1 and 2", 217L, () -> c.signature());
        });
        Sentences.test(TERMS, "Then, for each party in ascending order, it is combined by exclusive or with 2 to the "
                + "power of the number of the cell of the party, and then multiplied by 31.", c -> {
            c.setBench(7, 0);
            c.addParty(3, 0);
            Check.due("a party, no tree", 248L, () -> c.signature());
            c.setTree(6, 0, true);
            c.addParty(0, 0);
            // 64 * 31 = 1984; 1984 ^ 8 = 1992; 1992 * 31 = 61752; 61752 ^ 1 = 61753; 61753 * 31 = 1914343.
            Check.due("the first party first, though its cell is the greater", 1914343L, () -> c.signature());
            // 1914343 ^ 2 = 1914341; 1914341 * 31 = 59344571.
            c.addParty(1, 0);
            Check.due("the third party last", 59344571L, () -> c.signature());
            c.moveParty(2, 7, 7);
            Check.due("a party in cell 63", (1914343L ^ Long.MIN_VALUE) * 31, () -> c.signature());
        });
    }

    private static void texts() {
        Sentences.test(TERMS, "The command text is a buffer of at most 60 characters.", c -> {
            String text = "buy 1;buy 1;buy 1;buy 1;buy 1;buy 1;buy 1;buy 1;buy 1;buy 02";
            for (int length = 1; length <= 60; length++) {
                char character = text.charAt(length - 1);
                Check.due("character " + length, length, () -> c.append(character));
            }
            Check.badState("a 61st character", () -> c.append(' '));
            Check.due("the 60 are a text", 10, () -> c.run());
            Check.due("with 9 + 2 boomerangs", 21, () -> c.boomerangs());
            Check.due("the buffer is free again", 1, () -> c.append('b'));
        });
        Sentences.test(TERMS, "A command text has the following form, where braces mean zero or more repetitions and "
                + "brackets optional parts:", c -> {
            error(c, "", 0);
            runs(c, "buy 1", 1);
            runs(c, "buy 1;buy 1", 2);
            runs(c, "buy 1;buy 1;buy 1;buy 1;buy 1;buy 1;buy 1;buy 1;buy 1;buy 1", 10);
            runs(c, "buy 10", 1);
        });
        Sentences.test(TERMS, "text = command { \";\" command }", c -> {
            runs(c, "fell 11", 1);
            runs(c, "fell 11;fell 12", 2);
            runs(c, "fell 11;fell 12;fell 13", 3);
            error(c, ";fell 11", 0);
            error(c, "fell 11;", 8);
            error(c, "fell 11;;fell 12", 8);
            error(c, "fell 11 ;fell 12", 7);
            error(c, "fell 11; fell 12", 8);
            error(c, "fell 11,fell 12", 7);
            error(c, "fell 11fell 12", 7);
            error(c, " fell 11", 0);
            error(c, "fell 11 ", 7);
        });
    }

    private static void error(BoomerangCourt c, String text, int position) {
        Check.due("'" + text + "'", "throws.IllegalArgumentException", () -> Check.run(c, text));
        Check.due("'" + text + "'", position, () -> c.errorPosition());
    }

    private static void runs(BoomerangCourt c, String text, int commands) {
        Check.due("'" + text + "'", commands, () -> Check.run(c, text));
    }

    private static void fails(BoomerangCourt c, String text, int command) {
        Check.due("'" + text + "'", "throws.IllegalStateException", () -> Check.run(c, text));
        Check.due("'" + text + "'", command, () -> c.failedCommand());
    }

    /** Texts that end too early, each behind a whole text that went on where they end. */
    private static void prefixes() {
        for (String whole : new String[] {"tree 11;move 0@12;throw 0#12;hear 0;wind 11;pass 10;bench 22",
            "party 33;fell 12;buy 10;buy 2;throw 1#02;move 1@34;hear 1"}) {
            for (int length = 0; length < whole.length(); length++) {
                String prefix = whole.substring(0, length);
                int position = length;
                BoomerangCourt c = new BoomerangCourt();
                Check.due("the whole text", "throws.IllegalStateException", () -> Check.run(c, whole));
                Object answer = Check.run(c, prefix);
                if (prefix.matches(WHOLE)) {
                    Check.due("'" + prefix + "' is a text", false, () -> answer.equals("throws.IllegalArgumentException"));
                } else {
                    Check.due("'" + prefix + "' is none", "throws.IllegalArgumentException", () -> answer);
                    Check.due("'" + prefix + "' could go on", position, () -> c.errorPosition());
                }
            }
        }
    }

    private static void forms() {
        Sentences.test(TERMS, "command = \"tree \" cell | \"fell \" cell | \"bench \" cell | \"party \" cell | \"move \" "
                + "digit \"@\" cell | \"wind \" digit digit | \"throw \" digit \"#\" number | \"buy \" number | \"hear \" "
                + "digit | \"pass \" number", c -> {
            for (String command : new String[] {"tree 11", "fell 11", "bench 22", "party 33", "move 0@34", "wind 11",
                "throw 0#1", "throw 0#01", "buy 1", "buy 01", "pass 1", "pass 01"}) {
                runs(c, command, 1);
            }
            c.setBench(0, 0);
            c.setWind(0, 0);
            c.moveParty(0, 1, 0);
            c.pass(48);
            c.summon(0, 0);
            c.setSitting(c.hour() % 24, true);
            runs(c, "hear 0", 1);
            String[] wrong = {"move 0#34", "move 0@3", "move 00@34", "wind 1", "wind 111", "throw 0@1", "throw 0#",
                "throw 00#1", "buy", "buy ", "hear", "hear 00", "pass 111", "tree  11", "tree11", "TREE 11", "plant 11"};
            int[] positions = {6, 8, 6, 6, 7, 7, 8, 7, 3, 4, 4, 6, 7, 5, 4, 0, 1};
            for (int i = 0; i < wrong.length; i++) {
                error(new BoomerangCourt(), wrong[i], positions[i]);
            }
        });
        Sentences.test(TERMS, "cell = digit digit", c -> {
            runs(c, "tree 70", 1);
            runs(c, "tree 07", 1);
            fails(c, "tree 99", 0);
            fails(c, "tree 80", 0);
            error(c, "tree 1", 6);
            error(c, "tree 111", 7);
            error(c, "tree 1/", 6);
            error(c, "tree 1:", 6);
            error(c, "tree /1", 5);
            error(c, "tree :1", 5);
            error(c, "tree -1", 5);
            error(c, "move 0@ 1", 7);
        });
        Sentences.test(TERMS, "number = digit [ digit ]", c -> {
            runs(c, "buy 1", 1);
            runs(c, "buy 09", 1);
            runs(c, "buy 10", 1);
            Check.due("1 + 9 + 10 boomerangs", 30, () -> c.boomerangs());
            fails(c, "buy 0", 0);
            fails(c, "buy 99", 0);
            error(c, "buy ", 4);
            error(c, "buy /", 4);
            error(c, "buy :", 4);
            error(c, "buy 1/", 5);
            error(c, "buy 1:", 5);
            error(c, "buy 001", 6);
            error(c, "pass 001", 7);
            error(c, "throw 0#001", 10);
        });
        Sentences.test(TERMS, "The two digits of a cell are its column and its row.", c -> {
            runs(c, "bench 70", 1);
            Check.due("column 7, row 0", 7, () -> c.bench());
            runs(c, "bench 07", 1);
            Check.due("column 0, row 7", 56, () -> c.bench());
            runs(c, "tree 70;party 16", 2);
            Check.due("cell 7", 128L, () -> c.treeBits());
            Check.due("cell 49", 49, () -> c.cellOf(0));
            runs(c, "move 0@61;fell 70", 2);
            Check.due("cell 14", 14, () -> c.cellOf(0));
            Check.due("no tree", 0L, () -> c.treeBits());
        });
    }

    private static void calls() {
        Sentences.test(TERMS, "The commands call setTree() with true, setTree() with false, setBench(), addParty(), "
                + "moveParty(), setWind(), summon(), buyBoomerangs(), hear() and pass(), with the numbers of the command "
                + "as parameters in their order.", c -> {
            calls("tree 12", d -> d.setTree(1, 2, true));
            calls("fell 70", d -> d.setTree(7, 0, false));
            calls("fell 00", d -> d.setTree(0, 0, false));
            calls("fell 10", d -> d.setTree(1, 0, false));
            calls("bench 34", d -> d.setBench(3, 4));
            calls("party 57", d -> d.addParty(5, 7));
            calls("move 2@56", d -> d.moveParty(2, 5, 6));
            calls("wind 23", d -> d.setWind(2, 3));
            calls("throw 2#7", d -> d.summon(2, 7));
            calls("throw 2#12", d -> d.summon(2, 12));
            calls("throw 2#63", d -> d.summon(2, 63));
            calls("buy 9", d -> d.buyBoomerangs(9));
            calls("buy 12", d -> d.buyBoomerangs(12));
            calls("hear 1", d -> d.hear(1));
            calls("pass 3", d -> d.pass(3));
            calls("pass 48", d -> d.pass(48));
            for (String wrong : new String[] {"tree 80", "fell 08", "bench 88", "party 18", "move 3@11", "wind 80",
                "wind 04", "throw 3#0", "throw 2#64", "buy 0", "buy 21", "hear 9", "pass 0", "pass 49"}) {
                fails(c, wrong, 0);
            }
        });
    }

    /** A court on which each command can be carried out. */
    private static BoomerangCourt prepared() {
        BoomerangCourt c = new BoomerangCourt();
        c.addParty(1, 0);
        c.addParty(0, 1);
        c.addParty(4, 3);
        c.setTree(7, 0, true);
        c.pass(9);
        c.summon(0, 0);
        c.summon(1, 10);
        c.setWind(5, 2);
        return c;
    }

    private static void calls(String text, TermsOfChanges.CourtCall call) {
        BoomerangCourt commanded = prepared();
        BoomerangCourt called = prepared();
        runs(commanded, text, 1);
        call.of(called);
        String due = Observed.allOf(called);
        Check.due("'" + text + "' does what its call does", due, () -> Observed.allOf(commanded));
        Check.due("'" + text + "' with the wind", called.setWind(0, 0), () -> commanded.setWind(0, 0));
    }

    private static void errorPositions() {
        Sentences.test(TERMS, "The error position of a text is the index of the first character that cannot continue "
                + "any command text.", c -> {
            error(c, "x", 0);
            error(c, "~", 0);
            error(c, "1", 0);
            error(c, "buy 1;buy 1;x;y", 12);
            error(c, "tree 11;tree 1x;tree 1y", 14);
            String nine = "buy 1;buy 1;buy 1;buy 1;buy 1;buy 1;buy 1;buy 1;buy 1;";
            error(c, nine + "buy 1 ", 59);
            error(c, nine + "pass x", 59);
            error(c, "x" + nine, 0);
        });
        Sentences.test(TERMS, "If every character can, the error position is the length of the text.", c -> {
            error(c, "", 0);
            error(c, "t", 1);
            error(c, "pass ", 5);
            error(c, "tree 1", 6);
            error(c, "move 1@", 7);
            error(c, "fell 11;", 8);
            error(c, "fell 11;p", 9);
            String nine = "buy 1;buy 1;buy 1;buy 1;buy 1;buy 1;buy 1;buy 1;buy 1;";
            error(c, nine + "buy 1;", 60);
            error(new BoomerangCourt(), nine + "bench ", 60);
            prefixes();
        });
        Sentences.test(TERMS, "Keywords are matched character by character.", c -> {
            for (String keyword : KEYWORDS) {
                for (int matched = 0; matched <= keyword.length(); matched++) {
                    error(new BoomerangCourt(), keyword.substring(0, matched) + "!", matched);
                    error(new BoomerangCourt(), keyword.substring(0, matched), matched);
                }
            }
            error(c, "thee 11", 2);
            error(c, "trow 0#1", 2);
            error(c, "bey 1", 2);
            error(c, "bunch 11", 2);
            error(c, "parss 1", 3);
            error(c, "pasty 11", 3);
        });
    }
}
