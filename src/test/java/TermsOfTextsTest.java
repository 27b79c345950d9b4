/** The words "Texts", "Reasons", "Changes" and "Exceptions" of "Terms": every sentence. */
public final class TermsOfTextsTest {
    private static final String TWO = "member(2) member(0) boat(0,2) ";
    /** A coxswain, two hands, an oar who is gone, a boat that is out, and a loan. */
    private static final String SOME = "member(2) member(0) member(0) member(1) leave(3) boat(0,2) "
            + "boat(2,2) borrow(3,9) call(0,2) ";
    /** Something in every part of the state: a past, a snapshot, a text, a fault, a line, ... */
    private static final String ALL = "text(m2;m0;m2;m0;m1;x4;b02;b33;o19;o29) commands() save() "
            + "text(m1;q) commands()=IllegalArgument text(m0;x9) commands()=Unsupported call(0,2) "
            + "line(0) pass(1) text(t1) ";

    public static void main(String[] args) {
        texts();
        reasons();
        changes();
        exceptions();
        Document.allTold("Texts", "Reasons", "Changes", "Exceptions");
        Check.end("TermsOfTextsTest");
    }

    private static String does(String text) {
        return "text(" + text + ") commands() ";
    }

    private static void texts() {
        oneOrMore();
        Document.says("Texts", "\"m\" and a skill lets a member come;");
        for (int skill = 0; skill <= 2; skill++) {
            Run.alike("member(" + skill + ")", does("m" + skill));
        }
        Run.refusedText("", "m3", 0, 1, 0);
        faulty("m", 1, "mm", 1, "m;", 1, "m-1", 1, "m+1", 1, "M1", 0);
        goesOrIsTrained();
        boatsAndCallOuts();
        loans();
        limitsAndHours();
        oneDigit();
        digitsOutOfRange();
        faultPositions();
        emptyText();
        allOrNone();
    }

    private static void faulty(Object... textsAndPositions) {
        for (int k = 0; k < textsAndPositions.length; k += 2) {
            Run.faulty("", (String) textsAndPositions[k], (Integer) textsAndPositions[k + 1]);
        }
    }

    private static void oneOrMore() {
        Document.says("Texts", "The text buffer holds one or more commands with \";\" between them:");
        faulty("", 0, ";", 0, ";m1", 0, "m1;", 3, "m1;;m1", 3, "m1m1", 2, "m1,m1", 2, "m1 ;m1", 2,
                "m1; m1", 3, " m1", 0, "m1:m1", 2);
        Run.run("commands()=IllegalArgument faultPosition()=0");
        Run.run("text(m1) commands()=1 text(m1;m1) commands()=2 account(1)=3");
        String nineteen = "t1;".repeat(19);
        Run.run("text(" + nineteen + "t1)=59 commands()=20 account(0)=20");
        Run.run("text(" + nineteen + "t11)=60 commands()=20 account(0)=30");
        faulty(nineteen + "t1;", 60, nineteen, 57, nineteen + "t", 58, nineteen + "t1q", 59,
                nineteen.substring(3) + "t111q", 57);
    }

    private static void goesOrIsTrained() {
        Document.says("Texts", "\"x\" and a member lets one go for good;");
        Run.alike("10*member(1) leave(0)", "10*member(1) " + does("x0"));
        Run.alike("10*member(1) leave(9)", "10*member(1) " + does("x9"));
        Run.refusedText("9*member(1)", "x9", 0, 3, 9);
        faulty("x", 1, "xx", 1, "x;", 1, "X0", 0);
        Document.says("Texts", "\"u\" and a member trains one;");
        Run.alike("10*member(1) train(0)", "10*member(1) " + does("u0"));
        Run.alike("10*member(1) train(9)", "10*member(1) " + does("u9"));
        Run.refusedText("9*member(1)", "u9", 0, 3, 9);
        faulty("u", 1, "uu", 1, "u;", 1, "U0", 0);
    }

    private static void boatsAndCallOuts() {
        Document.says("Texts", "\"b\", a draft and a number of seats lets a boat come;");
        Run.alike("boat(0,2)", does("b02"));
        Run.alike("boat(6,6)", does("b66"));
        Run.refusedText("", "b72", 0, 1, 0);
        Run.refusedText("", "b01", 0, 1, 0);
        Run.refusedText("", "b07", 0, 1, 0);
        faulty("b", 1, "b0", 2, "b0;", 2, "b;", 1, "bb", 1, "b0b", 2, "B02", 0);
        Document.says("Texts", "\"c\", a boat and hours calls one out;");
        Run.alike(TWO + "call(0,1)", TWO + does("c01"));
        Run.alike(TWO + "call(0,9)", TWO + does("c09"));
        Run.alike(TWO + "2*boat(0,2) call(2,3)", TWO + "2*boat(0,2) " + does("c23"));
        Run.refusedText(TWO, "c00", 0, 1, 0);
        Run.refusedText(TWO, "c11", 0, 3, 1);
        faulty("c", 1, "c0", 2, "c0;", 2, "c;", 1, "cc", 1, "c0c", 2, "C01", 0);
    }

    private static void loans() {
        Document.says("Texts", "\"o\", a number of oars and hours with 1 or 2 digits borrows oars;");
        Run.alike("borrow(1,1)", does("o11"));
        Run.alike("borrow(1,1)", does("o101"));
        Run.alike("borrow(9,9)", does("o99"));
        Run.alike("borrow(1,10)", does("o110"));
        Run.alike("borrow(9,48)", does("o948"));
        Run.refusedText("", "o149", 0, 1, 0);
        Run.refusedText("", "o199", 0, 1, 0);
        Run.refusedText("", "o10", 0, 1, 0);
        Run.refusedText("", "o100", 0, 1, 0);
        Run.refusedText("", "o01", 0, 1, 0);
        faulty("o", 1, "o1", 2, "o1;", 2, "o;", 1, "oo", 1, "o1o", 2, "o11o", 3, "o111o", 4, "o1111",
                4, "O11", 0);
        Document.says("Texts", "\"g\" and a loan gives one back;");
        Run.alike("4*borrow(1,9) giveBack(0)", "4*borrow(1,9) " + does("g0"));
        Run.alike("4*borrow(1,9) giveBack(3)", "4*borrow(1,9) " + does("g3"));
        Run.refusedText("4*borrow(1,9)", "g4", 0, 3, 4);
        faulty("g", 1, "gg", 1, "g;", 1, "G0", 0);
    }

    private static void limitsAndHours() {
        Document.says("Texts", "\"l\" and a number with 1 or 2 digits sets the limit;");
        Run.alike("limit(1)", does("l1"));
        Run.alike("limit(1)", does("l01"));
        Run.alike("limit(9)", does("l9"));
        Run.alike("limit(10)", does("l10"));
        Run.alike("limit(20)", does("l20"));
        Run.refusedText("", "l21", 0, 1, 0);
        Run.refusedText("", "l99", 0, 1, 0);
        Run.refusedText("", "l0", 0, 1, 0);
        Run.refusedText("", "l00", 0, 1, 0);
        Run.refusedText("", "l8", 0, 6, 0);
        Run.refusedText("", "l08", 0, 6, 0);
        faulty("l", 1, "l;", 1, "ll", 1, "l1l", 2, "l12l", 3, "l100", 3, "l008", 3, "L1", 0);
        Document.says("Texts", "and \"t\" and a number with 1 or 2 digits lets hours go by.");
        Run.alike("pass(1)", does("t1"));
        Run.alike("pass(1)", does("t01"));
        Run.alike("pass(9)", does("t9"));
        Run.alike("pass(10)", does("t10"));
        Run.alike("pass(99)", does("t99"));
        Run.refusedText("", "t0", 0, 1, 0);
        Run.refusedText("", "t00", 0, 1, 0);
        faulty("t", 1, "t;", 1, "tt", 1, "t1t", 2, "t12t", 3, "t100", 3, "t001", 3, "T1", 0);
    }

    private static void oneDigit() {
        Document.says("Texts", "All other numbers have one digit.");
        faulty("m11", 2, "m01", 2, "x11", 2, "x01", 2, "u11", 2, "u01", 2, "g11", 2, "g01", 2,
                "b022", 3, "b002", 3, "c011", 3, "c001", 3);
        // The second digit is that of the hours, so a text of 4 has 3 digits for them.
        Run.run("text(o123) commands()=1 loanOf(0,0)=1 loanOf(0,1)=23");
        faulty("o1234", 4);
    }

    /** The reading that the command is refused then, and the text has no fault. */
    private static void digitsOutOfRange() {
        Document.says("Texts", "All other numbers have one digit.");
        for (String text : new String[] {"m3", "m9", "b70", "b07", "b99", "l0", "l21", "t0", "t00",
            "o01", "o10", "o149"}) {
            Run.refusedText("", text, 0, 1, 0);
        }
        Run.refusedText(TWO, "c00", 0, 1, 0);
        Run.refusedText("", "c99", 0, 3, 9);
    }

    private static void faultPositions() {
        Document.says("Texts", "The fault position of a text is the index of its first character"
                + " that cannot continue such a text, or the length of the text if it ends too"
                + " early.");
        faulty("", 0, "q", 0, "q;q", 0, "m1;q;q", 3, "m1;m1;y", 6, "m1;m", 4, "m1;mx", 4, "m1;m1;", 6,
                "b1;b1", 2, "t1;t12;b12;t", 12, "m/", 1, "m:", 1, "1", 0, "-", 0);
        Run.run("text(m0;x0;l9;t9) commands()=4 faultPosition()=-1");
        String digits = "0123456789";
        for (String start : new String[] {"", "m0;", "t10;b02;"}) {
            onlyTheseGoOn(start, "mxubcoglt");
        }
        for (String start : new String[] {"m", "x", "u", "b", "c", "o", "g", "l", "t", "b0", "c0",
            "o1", "m0;t", "m0;c0"}) {
            onlyTheseGoOn(start, digits);
        }
        for (String start : new String[] {"m0", "x0", "u0", "b02", "c01", "o110", "g0", "l10",
            "t10", "m0;g0", "m0;o148"}) {
            onlyTheseGoOn(start, ";");
        }
        for (String start : new String[] {"o11", "l1", "t1", "m0;l2"}) {
            onlyTheseGoOn(start, digits + ";");
        }
        Run.run("append(#365) text(1) commands()=IllegalArgument faultPosition()=0");
        Run.run("text(m) append(#1633) commands()=IllegalArgument faultPosition()=1");
        Run.run("text(m) append(#304) commands()=IllegalArgument faultPosition()=1");
        Run.run("text(m1) append(#315) commands()=IllegalArgument faultPosition()=2");
        Run.run("append(#65535) commands()=IllegalArgument faultPosition()=0");
    }

    /** Behind this start any other character is the fault, and these are none. */
    private static void onlyTheseGoOn(String start, String signs) {
        for (int sign = 0; sign < 300; sign++) {
            String next = "text(" + start + ") append(#" + sign + ") text(!) commands()?";
            int due = start.length() + (signs.indexOf(sign) < 0 ? 0 : 1);
            Run.run(next, "faultPosition()=" + due);
        }
    }

    /** The reading that an empty text ends too early, so that its length is its fault position. */
    private static void emptyText() {
        Document.says("Texts", "or the length of the text if it ends too early.");
        faulty("", 0, "m", 1, "m1;", 3);
        Run.run("faultPosition()=-1 commands()=IllegalArgument faultPosition()=0");
        Run.run("text(m0) commands()=1 faultPosition()=-1 commands()=IllegalArgument",
                "faultPosition()=0 text(m0;) commands()=IllegalArgument faultPosition()=3",
                "commands()=IllegalArgument faultPosition()=0");
    }

    private static void allOrNone() {
        Document.says("Texts", "The commands are carried out as the methods would, all of them or"
                + " none.");
        Run.alike("member(2) member(0) train(1) boat(0,2) borrow(9,11) limit(20) call(0,3) pass(2)"
                + " giveBack(0) member(1) leave(2)", does("m2;m0;u1;b02;o911;l20;c03;t2;g0;m1;x2"),
                "undo");
        Run.run("text(m2;m0;b02;c01) commands()=4 account(11)=1 crew(0)=3");
        Run.refusedText("", "x0;m2;m0", 0, 3, 0);
        Run.refusedText("", "m2;m0;x2", 2, 3, 2);
        Run.refusedText(ALL + "commands() ", "m1;l9;t9;b02;o11;g0;u1;x3;c11;c11", 8, 7, 2);
        Run.refusedText("", "t1;".repeat(19) + "t0", 19, 1, 0);
    }

    private static void reasons() {
        firstThatApplies();
        reasons1To4();
        reasons5To8();
        reasons9To11();
        Document.says("Reasons", "12, a command is refused: its index, from 0.");
        Run.refusedText("", "t0", 0, 1, 0);
        Run.refusedText("", "t1;t0;t1", 1, 1, 0);
        Run.refusedText("", "t1;".repeat(18) + "t0;t1", 18, 1, 0);
        Run.refusedText("", "t1;".repeat(19) + "t0", 19, 1, 0);
        otherwiseTheDetailIs0();
        cause();
        keptWithItsCause();
    }

    private static void firstThatApplies() {
        Document.says("Reasons", "Something is refused for the first that applies of the reasons"
                + " that its method names, in the order in which it names them:");
        Run.refused("10*member(0)", "member(3)", 1, 0);
        Run.refused("3*boat(0,2)", "boat(7,2)", 1, 0);
        Run.refused("4*borrow(1,9)", "borrow(1,49)", 1, 0);
        Run.refused("member(2) leave(0)", "train(0)", 4, 0);
        Run.refused(TWO + "call(0,1)", "train(0)", 5, 0);
        Run.refused("", "call(0,0)", 3, 0);
        Run.refused(TWO + "call(0,1)", "call(0,10)", 1, 0);
        Run.refused("member(2) member(0) boat(1,2) pass(10) call(0,9) pass(2)", "call(0,1)", 5, 0);
        Run.refused("boat(1,2)", "call(0,1)", 7, 1);
    }

    private static void reasons1To4() {
        Document.says("Reasons", "1, a number is out of range;");
        Run.refused(ALL, "member(-1)", 1, 0);
        Run.refused(ALL, "limit(21)", 1, 0);
        Document.says("Reasons",
                "2, there would be more than there can be: how many there can be;");
        Run.refused("10*member(0)", "member(0)", 2, 10);
        Run.refused("3*boat(0,2)", "boat(0,2)", 2, 3);
        Run.refused("4*borrow(1,9)", "borrow(1,9)", 2, 4);
        Document.says("Reasons", "3, there is no such member, boat or loan: its number;");
        for (String call : new String[] {"leave(%s)", "train(%s)", "call(%s,1)", "giveBack(%s)"}) {
            Run.refused("", String.format(call, 0), 3, 0);
            Run.refused("", String.format(call, -1), 3, -1);
            Run.refused("", String.format(call, "max"), 3, Integer.MAX_VALUE);
            Run.refused("", String.format(call, "min"), 3, Integer.MIN_VALUE);
        }
        Run.refused("3*member(0)", "leave(3)", 3, 3);
        Run.refused("3*member(0)", "train(4)", 3, 4);
        Run.refused(TWO, "call(1,1)", 3, 1);
        Run.refused("4*borrow(1,9)", "giveBack(4)", 3, 4);
        Document.says("Reasons", "4, the member is gone;");
        Run.refused(SOME, "leave(3)", 4, 0);
        Run.refused(SOME, "train(3)", 4, 0);
    }

    private static void reasons5To8() {
        Document.says("Reasons", "5, the member, or the boat, is out: the boat;");
        for (int boat = 0; boat <= 2; boat++) {
            String rota = "3*member(0) member(2) 3*boat(0,2) call(" + boat + ",1) ";
            Run.refused(rota, "leave(3)", 5, boat);
            Run.refused(rota, "leave(0)", 5, boat);
            Run.refused(rota, "train(0)", 5, boat);
            Run.refused(rota, "call(" + boat + ",1)", 5, boat);
        }
        Document.says("Reasons", "6, it is so already;");
        Run.refused("member(2)", "train(0)", 6, 0);
        Run.refused("limit(3)", "limit(3)", 6, 0);
        Document.says("Reasons", "7, the water is too low: by how much;");
        for (int hour = 0; hour <= 5; hour++) {
            String pass = hour == 0 ? "" : "pass(" + hour + ") ";
            Run.refused("boat(6,2) " + pass, "call(0,1)", 7, 6 - hour);
        }
        Run.refused("boat(3,2) pass(12)", "call(0,1)", 7, 3);
        Run.refused("boat(3,2) pass(10)", "call(0,1)", 7, 1);
        Document.says("Reasons", "8, no coxswain is able;");
        Run.refused("boat(0,2)", "call(0,1)", 8, 0);
        Run.refused("10*member(1) boat(0,2)", "call(0,1)", 8, 0);
        Run.refused(SOME + "pass(2) leave(0)", "call(0,1)", 8, 0);
    }

    private static void reasons9To11() {
        Document.says("Reasons", "9, too few members are able: how many are missing;");
        for (int members = 1; members <= 5; members++) {
            Run.refused("member(2) " + (members - 1) + "*member(1) boat(0,6)", "call(0,1)", 9,
                    6 - members);
        }
        Run.refused("member(2) 5*member(1) boat(0,6) leave(3)", "call(0,1)", 9, 1);
        Document.says("Reasons", "10, too few of the others who are able have a skill of 1 or 2:"
                + " how many are missing;");
        Run.refused("member(2) 9*member(0) boat(0,6)", "call(0,1)", 10, 2);
        Run.refused("member(2) member(1) 8*member(0) boat(0,6)", "call(0,1)", 10, 1);
        Run.refused("2*member(2) 8*member(0) boat(0,6)", "call(0,1)", 10, 1);
        Run.refused("member(2) 2*member(1) 7*member(0) boat(0,6) leave(1)", "call(0,1)", 10, 1);
        Run.run("member(2) 2*member(1) 7*member(0) boat(0,6) call(0,1)=0");
        Document.says("Reasons", "11, too few oars are free: how many are missing;");
        String rota = "2*member(1) member(2) 5*member(1) 2*member(2) boat(0,6) boat(0,4) boat(0,2) ";
        Run.refused(rota + "call(0,9)", "call(1,1)", 11, 2);
        Run.refused(rota + "borrow(1,9) call(0,9)", "call(1,1)", 11, 1);
        Run.run(rota + "borrow(2,9) call(0,9) call(1,1) free()=0");
        Run.refused(rota + "borrow(2,9) call(0,9) call(1,1)", "giveBack(0)", 11, 2);
        Run.refused(rota + "borrow(3,9) call(0,9) call(1,1)", "giveBack(0)", 11, 2);
        Run.refused(rota + "borrow(3,9) borrow(1,9) call(0,9) call(1,1)", "giveBack(0)", 11, 1);
        Run.run(rota + "borrow(3,9) borrow(2,9) call(0,9) call(1,1) giveBack(0)=0");
    }

    private static void otherwiseTheDetailIs0() {
        Document.says("Reasons", "If nothing else is told, the detail is 0.");
        // What was kept before has another detail.
        Run.refused("member(1) leave(7)=Unsupported", "member(3)", 1, 0);
        Run.refused("member(1) leave(7)=Unsupported leave(0)", "leave(0)", 4, 0);
        Run.refused("member(2) leave(7)=Unsupported", "train(0)", 6, 0);
        Run.refused("boat(0,2) call(5,1)=Unsupported", "call(0,1)", 8, 0);
    }

    private static void cause() {
        Document.says("Reasons",
                "The reason 12 has a cause, which is the reason for which the command is refused.");
        Run.refusedText("", "m3", 0, 1, 0);
        Run.refusedText("10*member(0)", "m0", 0, 2, 10);
        Run.refusedText("3*boat(0,2)", "b02", 0, 2, 3);
        Run.refusedText("4*borrow(1,9)", "o11", 0, 2, 4);
        Run.refusedText("", "x7", 0, 3, 7);
        Run.refusedText(SOME, "x3", 0, 4, 0);
        Run.refusedText(SOME + "pass(2) call(1,1) ", "u0", 0, 5, 1);
        Run.refusedText(SOME, "t1;c01", 1, 5, 0);
        Run.refusedText(SOME, "l8", 0, 6, 0);
        Run.refusedText(SOME, "c11", 0, 7, 2);
        Run.refusedText(SOME, "t2;x0;c01", 2, 8, 0);
        Run.refusedText(SOME, "b06;t2;c21", 2, 9, 3);
        Run.refusedText(SOME, "m0;b04;t2;c21", 3, 10, 1);
        Run.refusedText("member(2) 4*member(1) member(2) 4*member(1) 2*boat(0,5)", "c01;c11", 1, 11,
                2);
        Run.refusedText("member(2) 4*member(1) member(2) 4*member(1) 2*boat(0,5) borrow(3,1)",
                "c01;c11;g0", 2, 11, 2);
        Run.refused("text(x7) commands()=Unsupported", "leave(0)", 3, 0);
    }

    private static void keptWithItsCause() {
        Document.says("Reasons", "The reason is kept with its cause.");
        String kept = Run.kept(12, 1) + " reason(true,false)=3 reason(true,true)=9";
        Run.run("text(m2;x9) commands()=Unsupported", kept, "member(1)", kept, "pass(5)", kept,
                "save()", kept, "undo()", kept, "restore()", kept, "text(q)", kept,
                "commands()=IllegalArgument", kept, "text(m0) commands()", kept, "line(9)=IndexOutOfBounds",
                kept, "wouldRefuse(0)=IndexOutOfBounds boat(6,2) wouldRefuse(0)=7", kept);
        Run.run("boat(0,6) leave(4)=Unsupported wouldGo(0)=NoSuchElement callableIn(0)=NoSuchElement",
                "wouldRefuse(0)=8 homeIn(0)=NoSuchElement", Run.kept(3, 4), Run.noCause());
    }

    private static void changes() {
        whatCanBeUndone();
        theLatestEight();
        whatStays();
    }

    private static void whatCanBeUndone() {
        Document.says("Changes", "What can be undone are the successful calls of member, leave,"
                + " train, boat, call, borrow, giveBack, limit, pass and commands.");
        String given = does("m2;m0;m0;m2;b02;b02;b06;o19;o29;c03") + "pass(1) ";
        for (String call : new String[] {"member(1)", "leave(2)", "train(2)", "call(1,9)",
            "borrow(9,48)", "giveBack(0)", "giveBack(1)", "limit(20)", "pass(1)", "pass(99)"}) {
            Run.run(given + "account(11)=2", call, "account(11)=3 undo()=2");
            Run.alike(given, given + call + " undo()");
        }
        Run.alike("member(2)", "member(2) boat(0,2) undo()");
        Run.run("boat(0,2) account(11)=1 undo()=0 account(3)=0");
        Run.run(given + "text(m1;x2;c12;t9;l3) commands()=5 account(11)=3 undo()=2");
        Run.alike(given, given + does("m1;x2;c12;t9;l3") + "undo()");
        // No other call is a change, whether it answers or throws.
        Run.run(given, "member(3)=Unsupported text(x9) commands()=Unsupported",
                "text(m) commands()=IllegalArgument append(m) line(0) save() height(5) able()",
                "wouldGo(1) callableIn(1) homeIn(0) homeInAgain(0) wouldRefuse(0) leave(9)=Unsupported",
                "least(0) busiest(0) account(11)=2 undo()=1 account(0)=0");
    }

    private static void theLatestEight() {
        Document.says("Changes", "What there was before each of the latest 8 is kept;");
        Run.run("undo()=IllegalState member(0) account(11)=1 undo()=0 undo()=IllegalState");
        for (int changes = 7; changes <= 10; changes++) {
            StringBuilder undone = new StringBuilder();
            int most = Math.min(changes, 8);
            for (int k = most - 1; k >= 0; k--) {
                undone.append("undo()=").append(k).append(" account(0)=")
                        .append(changes - most + k).append(' ');
            }
            Run.run(changes + "*pass(1) account(11)=" + most, undone + "undo()=IllegalState");
        }
        Document.says("Changes", "restore forgets it.");
        Run.run("save() 8*pass(1) account(11)=8 restore()=0 account(11)=0 undo()=IllegalState");
        Run.run("pass(1) save() restore()=1 account(11)=0 undo()=IllegalState pass(1) undo()=0",
                "account(0)=1");
    }

    private static void whatStays() {
        Document.says("Changes", "The text buffer, the fault position, the reason and the line do"
                + " not belong to it, and stay.");
        String given = TWO + "save() pass(1) call(0,3) text(m1;y) commands()=IllegalArgument"
                + " text(x5) commands()=Unsupported text(q7) commands()=IllegalArgument line(0)"
                + " text(m1;m) ";
        String stay = "account(12)=4 faultPosition()=0 written()=0d0s2:0*1+3 " + Run.kept(12, 0)
                + " reason(true,false)=3 reason(true,true)=5 ";
        Run.run(given + stay + "undo()=4 " + stay + "undo()=3 " + stay);
        Run.run(given + stay + "restore()=0 " + stay);
        // They were other ones when the snapshot was made.
        Run.run("boat(0,2) line(0) text(m) save() commands()=IllegalArgument leave(3)=Unsupported",
                "boat(6,6) line(1) text(l9;q) restore()=0 account(12)=4 written()=1d6s6",
                "faultPosition()=1", Run.kept(3, 3), "commands()=IllegalArgument faultPosition()=3");
    }

    private static void exceptions() {
        Document.says("Exceptions", "A call that throws an exception leaves the state unchanged,");
        String[] calls = {"height(100)=IllegalArgument", "memberOf(5,0)=IndexOutOfBounds",
            "memberOf(0,8)=IllegalArgument", "boatOf(2,0)=IndexOutOfBounds",
            "boatOf(0,7)=IllegalArgument", "crew(2)=IndexOutOfBounds", "wouldGo(2)=IndexOutOfBounds",
            "weariness(-1)=IndexOutOfBounds", "wearinessAgain(3)=IndexOutOfBounds",
            "wouldRefuse(2)=IndexOutOfBounds", "callableIn(2)=IndexOutOfBounds",
            "homeIn(2)=IndexOutOfBounds", "homeIn(1)=NoSuchElement", "homeInAgain(1)=NoSuchElement",
            "loanOf(2,0)=IndexOutOfBounds", "loanOf(0,3)=IllegalArgument", "least(4)=NoSuchElement",
            "busiest(5)=NoSuchElement", "line(2)=IndexOutOfBounds", "character(11)=IndexOutOfBounds",
            "account(13)=IllegalArgument"};
        for (String call : calls) {
            int end = call.indexOf('=');
            Run.fails(ALL, call.substring(0, end), call.substring(end + 1));
        }
        Run.fails("text(" + "q".repeat(60) + ")", "append(m)", "IllegalState");
        goesOnBehindIt();
        Document.says("Exceptions", "unless stated otherwise.");
        Run.refused(ALL, "leave(5)", 3, 5);
        Run.faulty(ALL + "commands() ", "x1;", 3);
        Run.refusedText(ALL + "commands() ", "t1;x9", 1, 3, 9);
        Document.says("Exceptions", "If several conditions of a method are fulfilled, the one that"
                + " is listed first determines the exception.");
        Run.fails(ALL, "memberOf(5,8)", "IndexOutOfBounds");
        Run.fails(ALL, "memberOf(-1,-1)", "IndexOutOfBounds");
        Run.fails(ALL, "boatOf(2,7)", "IndexOutOfBounds");
        Run.fails(ALL, "loanOf(2,3)", "IndexOutOfBounds");
        Run.fails("", "homeIn(0)", "IndexOutOfBounds");
        Run.fails("", "wouldGo(0)", "IndexOutOfBounds");
        // A text with a fault, whose commands would be refused: no reason is kept.
        Run.faulty("", "x9;q", 3);
        Run.run("text(x9;q) commands()=IllegalArgument reason(false,false)=NoSuchElement");
    }

    /** Behind a call that was refused, or threw, each change does what it would have done. */
    private static void goesOnBehindIt() {
        String given = does("m2;m0;m1;b02;b22;o19;t2");
        for (String call : new String[] {"member(1)", "leave(1)", "train(1)", "boat(0,6)",
            "call(0,3)", "borrow(9,9)", "giveBack(0)", "limit(3)", "pass(3)",
            "text(m1) commands()"}) {
            for (String thrown : new String[] {"member(3)", "leave(9)", "train(0)", "boat(7,7)",
                "call(1,0)", "borrow(0,1)", "giveBack(1)", "limit(8)", "pass(0)", "height(-1)",
                "text(x0;x0) commands()"}) {
                Run.alike(given + call, given + thrown.replace(")", ")?") + " " + call, "reason");
            }
        }
    }
}
