/** The sentences of the promises 47 to 50: the command text, run, error positions and failed commands. */
final class PromisesOfCommands {
    private static final String ARGUMENT = "throws.IllegalArgumentException";
    private static final String STATE = "throws.IllegalStateException";

    private PromisesOfCommands() {
    }

    static void test() {
        append();
        run();
        runsThatFail();
        faults();
    }

    private static void append() {
        Sentences.test(47, "Appends a character to the command text.", c -> {
            Check.type(c, "tree 12");
            Check.due("the text", 1, () -> c.run());
            Check.due("in its order", 1L << 17, () -> c.treeBits());
        });
        Sentences.test(47, "- `character`: the character", c -> {
            Check.due("32 is the first", 1, () -> c.append((char) 32));
            Check.due("126 is the last", 2, () -> c.append((char) 126));
            Check.badArgument("the text", () -> c.run());
            Check.due("begins with a wrong character", 0, () -> c.errorPosition());
        });
        Sentences.test(47, "Returns the length of the command text after the call.", c -> {
            for (int length = 1; length <= 60; length++) {
                int characters = length;
                Check.due("length " + length, characters, () -> c.append('x'));
            }
            Check.badState("no 61", () -> c.append('x'));
            Check.badArgument("the text", () -> c.run());
            Check.due("1 again after a run", 1, () -> c.append('x'));
        });
        Sentences.test(47, "Throws `IllegalArgumentException` if the code of the character is not from 32 to 126", c -> {
            for (int code = 0; code < 32; code++) {
                char character = (char) code;
                Check.badArgument("code " + code, () -> c.append(character));
            }
            for (int code : new int[] {127, 128, 160, 255, 256, 256 + 65, 0x7FFF, 0x8000, 0xFFFF}) {
                char character = (char) code;
                Check.badArgument("code " + code, () -> c.append(character));
            }
            for (int code = 32; code <= 91; code++) {
                char character = (char) code;
                Check.due("code " + code, code - 31, () -> c.append(character));
            }
            Check.badArgument("code 127 at a full text", () -> c.append((char) 127));
            BoomerangCourt d = new BoomerangCourt();
            for (int code = 92; code <= 126; code++) {
                char character = (char) code;
                Check.due("code " + code, code - 91, () -> d.append(character));
            }
        });
        Sentences.test(47, "Throws `IllegalStateException` if the command text has 60 characters", c -> {
            Check.type(c, "                                                           ");
            Check.due("not if it has 59", 60, () -> c.append('b'));
            Check.badState("if it has 60", () -> c.append('u'));
            Check.badState("still", () -> c.append('y'));
            Check.badArgument("the text", () -> c.run());
            Check.due("not after a run", 1, () -> c.append('b'));
        });
    }

    private static void run() {
        Sentences.test(48, "Parses the command text and carries out its commands in order.", c -> {
            Check.due("the tree is felled before the party comes", 5,
                    () -> Check.run(c, "tree 11;fell 11;party 11;move 0@12;tree 11"));
            Check.due("to cell 17", 17, () -> c.cellOf(0));
            Check.due("and planted again behind it", 1L << 9, () -> c.treeBits());
            Check.due("in another order", STATE, () -> Check.run(c, "party 22;tree 22;fell 22"));
        });
        Sentences.test(48, "Either all commands are carried out, or none.", c -> {
            c.addParty(1, 0);
            String before = Observed.stateOf(c);
            Check.due("the last one of eight fails", STATE,
                    () -> Check.run(c, "pass 8;throw 0#0;hear 0;buy 9;tree 11;bench 22;wind 33;buy 0"));
            Check.due("none", before, () -> Observed.stateOf(c));
            Check.due("not even the wind", 0, () -> c.setWind(0, 0));
            Check.due("the first one of two fails", STATE, () -> Check.run(c, "tree 00;tree 11"));
            Check.due("none of two", before, () -> Observed.stateOf(c));
            Check.due("the second one is no command", ARGUMENT, () -> Check.run(c, "tree 11;tree 1"));
            Check.due("none of one and a half", before, () -> Observed.stateOf(c));
            Check.due("seven fail not", 7,
                    () -> Check.run(c, "pass 8;throw 0#0;hear 0;buy 9;tree 11;bench 22;wind 33"));
            Check.due("all: hours", 9, () -> c.hour());
            Check.due("all: served", 1, () -> c.servedCount(0));
            Check.due("all: coins", 50 - 1 + 3 - 18, () -> c.coins());
            Check.due("all: tree", 1L << 9, () -> c.treeBits());
            Check.due("all: bench", 18, () -> c.bench());
            Check.due("all: wind", 33, () -> c.setWind(0, 0));
        });
        Sentences.test(48, "The command text is empty after the call, also if an exception is thrown.", c -> {
            Check.due("carried out", 1, () -> Check.run(c, "buy 1"));
            Check.due("empty", ARGUMENT, () -> c.run());
            Check.due("its error position", 0, () -> c.errorPosition());
            Check.due("no text", ARGUMENT, () -> Check.run(c, "xy"));
            Check.due("empty after it", 1, () -> c.append('b'));
            Check.due("fails", STATE, () -> Check.run(c, "uy 0"));
            Check.due("empty after that", 1, () -> c.append('b'));
            Check.due("another text", 1, () -> Check.run(c, "uy 2"));
            Check.due("13 boomerangs", 13, () -> c.boomerangs());
            Check.due("empty again", ARGUMENT, () -> c.run());
        });
        Sentences.test(48, "Returns the number of commands.", c -> {
            Check.due("1 is the least", 1, () -> Check.run(c, "buy 1"));
            Check.due("3", 3, () -> Check.run(c, "buy 1;tree 11;tree 11"));
            Check.due("10 is the most", 10,
                    () -> Check.run(c, "buy 1;buy 1;buy 1;buy 1;buy 1;buy 1;buy 1;buy 1;buy 1;buy 10"));
        });
    }

    private static void runsThatFail() {
        Sentences.test(48, "The first command whose method would throw an exception is the failed command.", c -> {
            Check.due("the first", STATE, () -> Check.run(c, "buy 0;buy 0;tree 00"));
            Check.due("index 0", 0, () -> c.failedCommand());
            Check.due("the second", STATE, () -> Check.run(c, "buy 1;tree 80;buy 0"));
            Check.due("index 1", 1, () -> c.failedCommand());
            Check.due("the last of ten", STATE,
                    () -> Check.run(c, "buy 1;buy 1;buy 1;buy 1;buy 1;buy 1;buy 1;buy 1;buy 1;buy 17"));
            Check.due("index 9", 9, () -> c.failedCommand());
            Check.due("what an earlier command has brought about", STATE, () -> Check.run(c, "party 11;buy 1;tree 11"));
            Check.due("index 2", 2, () -> c.failedCommand());
            Check.due("what an earlier command has set right", STATE,
                    () -> Check.run(c, "tree 11;fell 11;bench 11;tree 00;tree 11"));
            Check.due("index 4", 4, () -> c.failedCommand());
        });
        Sentences.test(48, "If it is refused with a reason, the reason is kept.", c -> {
            kept("a tree", "tree 11;bench 11", 1, 9);
            kept("a party", "party 11;party 12;bench 12", 2, 1);
            kept("the bench", "bench 11;tree 11", 3, 9);
            kept("no boomerang", "tree 10;party 11;throw 0#0;throw 0#0;throw 0#0;throw 0#0", 4, 40, 7);
            kept("a plea waits", "party 10;throw 0#0;throw 0#0", 5, 0);
            kept("no sitting", "party 10;pass 7;throw 0#0;hear 0", 6, 7);
            kept("too early", "party 13;pass 8;throw 0#0;hear 0", 7, 1);
            Check.due("no cell is no reason", STATE, () -> Check.run(c, "tree 80"));
            Check.due("no coins neither", STATE, () -> Check.run(c, "buy 20;buy 20"));
            Check.due("no party neither", STATE, () -> Check.run(c, "hear 0"));
            Check.noSuchElement("none is kept", () -> c.refusalReason());
            c.addParty(1, 0);
            Check.answerOf(() -> c.setBench(1, 0));
            Check.due("a command that is not reached", STATE, () -> Check.run(c, "buy 0;tree 00"));
            Check.due("does not matter", 2, () -> c.refusalReason());
            Check.due("nor does one that is not read", ARGUMENT, () -> Check.run(c, "tree 00;"));
            Check.due("the reason stays", 2, () -> c.refusalReason());
        });
        Sentences.test(48, "Throws `IllegalArgumentException` if the text is not a command text; the error position is "
                + "set and the failed command is left as it is", c -> {
            Check.due("the empty text", ARGUMENT, () -> c.run());
            Check.due("its length", 0, () -> c.errorPosition());
            Check.noSuchElement("none has failed", () -> c.failedCommand());
            Check.due("a command that fails", STATE, () -> Check.run(c, "buy 1;buy 0"));
            Check.due("no text", ARGUMENT, () -> Check.run(c, "buy 0;buy 1;buy 1;buy"));
            Check.due("is set", 21, () -> c.errorPosition());
            Check.due("is left", 1, () -> c.failedCommand());
            Check.due("60 characters", ARGUMENT,
                    () -> Check.run(c, "buy 1;buy 1;buy 1;buy 1;buy 1;buy 1;buy 1;buy 1;buy 1;buy 1;"));
            Check.due("is set to 60", 60, () -> c.errorPosition());
            Check.due("is left again", 1, () -> c.failedCommand());
        });
        Sentences.test(48, "Throws `IllegalStateException` if a command fails; the failed command is set and the error "
                + "position is left as it is", c -> {
            Check.due("no cell", STATE, () -> Check.run(c, "tree 80"));
            Check.due("is set", 0, () -> c.failedCommand());
            Check.noSuchElement("no error", () -> c.errorPosition());
            Check.due("no text", ARGUMENT, () -> Check.run(c, "tree 8"));
            for (String text : new String[] {"buy 1;tree 08", "buy 1;fell 88", "buy 1;bench 80", "buy 1;party 80",
                "buy 1;move 0@11", "buy 1;wind 80", "buy 1;throw 0#0", "buy 1;buy 21", "buy 1;hear 0",
                "buy 1;pass 49", "buy 1;tree 00"}) {
                Check.due("'" + text + "'", STATE, () -> Check.run(c, text));
                Check.due("'" + text + "'", 1, () -> c.failedCommand());
                Check.due("'" + text + "'", 6, () -> c.errorPosition());
            }
        });
    }

    private static void kept(String what, String text, int reason, int detail) {
        kept(what, text, reason, detail, 0);
    }

    /** A run on a new court that has lost some boomerangs. */
    private static void kept(String what, String text, int reason, int detail, int lost) {
        BoomerangCourt c = new BoomerangCourt();
        if (lost > 0) {
            c.addParty(4, 3);
            c.setTree(1, 1, true);
            for (int i = 0; i < lost; i++) {
                c.summon(0, 1);
            }
            c.setTree(1, 1, false);
        }
        Check.due(what, STATE, () -> Check.run(c, text));
        Check.due(what + ": reason", reason, () -> c.refusalReason());
        Check.due(what + ": detail", detail, () -> c.refusalDetail());
    }

    private static void faults() {
        Sentences.plain(49, "Returns the error position.");
        Sentences.test(49, "Returns the error position that was set last.", c -> {
            Check.run(c, "buy");
            Check.due("3", 3, () -> c.errorPosition());
            Check.run(c, "");
            Check.due("then 0", 0, () -> c.errorPosition());
            Check.run(c, "                                                            ");
            Check.due("0 of 60", 0, () -> c.errorPosition());
            Check.run(c, "buy 1;buy 1;buy 1;buy 1;buy 1;buy 1;buy 1;buy 1;buy 1;buy 1?");
            Check.due("then 59", 59, () -> c.errorPosition());
            Check.run(c, "buy 1");
            Check.due("a run that is carried out keeps it", 59, () -> c.errorPosition());
            Check.run(c, "buy 0");
            Check.due("a run that fails keeps it", 59, () -> c.errorPosition());
            c.append('x');
            c.undo();
            Check.due("undo keeps it", 59, () -> c.errorPosition());
        });
        Sentences.test(49, "Throws `NoSuchElementException` if no error position was set", c -> {
            Check.noSuchElement("a new court", () -> c.errorPosition());
            c.append('b');
            Check.noSuchElement("a text", () -> c.errorPosition());
            Check.run(c, "uy 1");
            Check.noSuchElement("a run", () -> c.errorPosition());
            Check.run(c, "buy 0");
            Check.noSuchElement("a command that fails", () -> c.errorPosition());
            Check.run(c, "");
            Check.due("an error position of 0", 0, () -> c.errorPosition());
        });
        Sentences.test(50, "Returns the index of the failed command of the latest run in which a command failed.", c -> {
            Check.run(c, "buy 1;buy 1;buy 0");
            Check.due("2", 2, () -> c.failedCommand());
            Check.run(c, "buy 1");
            Check.due("a run that is carried out keeps it", 2, () -> c.failedCommand());
            Check.run(c, "buy");
            Check.due("a run of no text keeps it", 2, () -> c.failedCommand());
            Check.run(c, "buy 1;buy 0");
            Check.due("1 in a later run", 1, () -> c.failedCommand());
            c.undo();
            Check.due("undo keeps it", 1, () -> c.failedCommand());
        });
        Sentences.test(50, "Returns the index, from 0.", c -> {
            Check.run(c, "buy 0");
            Check.due("0 is the least", 0, () -> c.failedCommand());
            Check.run(c, "buy 1;buy 1;buy 1;buy 1;buy 1;buy 1;buy 1;buy 1;buy 1;buy 0");
            Check.due("9 is the greatest", 9, () -> c.failedCommand());
        });
        Sentences.test(50, "Throws `NoSuchElementException` if no command has failed", c -> {
            Check.noSuchElement("a new court", () -> c.failedCommand());
            Check.run(c, "buy 1");
            Check.noSuchElement("a run", () -> c.failedCommand());
            Check.run(c, "buy");
            Check.noSuchElement("no text", () -> c.failedCommand());
            Check.answerOf(() -> c.buyBoomerangs(0));
            Check.noSuchElement("a call that fails", () -> c.failedCommand());
            Check.run(c, "buy 0");
            Check.due("a failed command 0", 0, () -> c.failedCommand());
        });
    }
}
