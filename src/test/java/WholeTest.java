import java.util.ArrayList;
import java.util.List;

/** "What it is" and "Not promised", and that the document has no part that no test holds. */
public final class WholeTest {
    private static final String TWO = "member(2) member(0) boat(0,2) ";
    private static final int MOST_CALLS = 512;

    public static void main(String[] args) {
        parts();
        people();
        boats();
        oarsAndHours();
        textsAndTheRest();
        fiveHundredAndTwelve();
        notPromised();
        Document.allTold("What it is", "Not promised");
        Check.end("WholeTest");
    }

    private static void parts() {
        List<String> due = new ArrayList<>(List.of("", "What it is", "The public face", "Terms",
                "Tides", "Members", "Boats", "Choosing", "Call-outs", "Oars", "Hours", "Texts",
                "Reasons", "Changes", "Exceptions", "Details", "Not promised"));
        for (int k = 1; k <= 38; k++) {
            due.add("Promise " + k);
        }
        due.sort(null);
        Check.same("the parts of the document", due.toString(), Document.parts().toString());
    }

    private static void people() {
        Document.says("What it is", "A rota of a lifeboat station:");
        Run.run("account(0)=0 account(1)=0 account(3)=0 account(6)=6");
        Document.says("What it is", "members with skills, who become tired and rest,");
        Run.run(TWO + "call(0,3) pass(3) memberOf(0,2)=6 memberOf(1,2)=3 pass(2) memberOf(0,2)=4",
                "memberOf(1,2)=1");
    }

    private static void boats() {
        Document.says("What it is", "boats with drafts and seats,");
        Run.run("boat(4,3) boatOf(0,0)=4 boatOf(0,1)=3");
        Document.says("What it is", "tides by hours,");
        Run.run("height(0)=0 height(6)=6 height(9)=3 pass(9) height(0)=3");
        Document.says("What it is", "call-outs for which the crew is chosen that is least tired,"
                + " told in two ways,");
        Run.run("2*member(2) 2*member(0) boat(0,2) call(0,1)=0 crew(0)=3 pass(1)",
                "memberOf(0,2)=2 memberOf(1,2)=1 wouldGo(0)=6 weariness(0)=1 wearinessAgain(0)=1");
        Document.says("What it is", "boats that wait outside for the tide,");
        Run.run("member(2) member(0) boat(2,2) pass(10) call(0,1) pass(3)=0 boatOf(0,4)=3 pass(1)=1");
    }

    private static void oarsAndHours() {
        Document.says("What it is", "oars that are borrowed and given back,");
        Run.run("borrow(4,9)=0 free()=10 giveBack(0)=6 borrow(4,9)=0 pass(9) free()=6");
        Document.says("What it is", "when a boat could go, when it comes home, hours that go by,");
        Run.run("member(2) member(0) boat(4,2) callableIn(0)=4 pass(4)=0 call(0,6)=0 homeIn(0)=12",
                "homeInAgain(0)=12 pass(11)=0 account(0)=15 pass(1)=1 account(0)=16");
    }

    private static void textsAndTheRest() {
        Document.says("What it is", "commands as texts with faults by place, reasons with causes,");
        Run.run("text(m2;m) commands()=IllegalArgument faultPosition()=4 text(m2;x1)",
                "commands()=Unsupported", Run.kept(12, 1), "reason(true,false)=3 reason(true,true)=1");
        Document.says("What it is", "a line, accounts, undo, and a snapshot.");
        Run.run(TWO + "line(0)=5 written()=0d0s2 account(1)=2 undo()=2 account(3)=0 save()=0 pass(3)",
                "restore()=0 account(0)=0");
    }

    /** The last of the calls that may be made is answered like any other, whatever they were. */
    private static void fiveHundredAndTwelve() {
        Document.says("What it is", "An object is used for at most 512 calls after it has been"
                + " made; what later calls answer is free.");
        Run.run((MOST_CALLS - 1) + "*pass(99) save()=50589");
        Run.run((MOST_CALLS - 1) + "*pass(99)=0 undo()=7");
        Run.run(TWO + "call(0,9) " + (MOST_CALLS - 5) + "*pass(9) account(8)=1");
        Run.run("boat(6,2) " + (MOST_CALLS - 3) + "*call(0,1)=Unsupported reason(false,true)=6",
                "account(11)=1");
        Run.run((MOST_CALLS - 2) + "*text(m)? account(12)=60 commands()=IllegalArgument");
        String text = "text(" + "t99;".repeat(14) + "t99) commands()=15 ";
        Run.run(text.repeat(8) + "account(0)=11880 height(0)=0 30*pass(99)=0");
        Run.run(TWO + (MOST_CALLS - 4) / 2 + "*line(0) save()=0");
        Run.run("member(1) save() " + (MOST_CALLS - 3) / 2 + "*restore()=0 account(1)=1");
    }

    /** Of what is not promised there is nothing to ask. */
    private static void notPromised() {
        Document.says("Not promised", "How the state is held inside the object is free, as are the"
                + " speed of each call, the text of toString and the behaviour of equals and"
                + " hashCode. Use of one object from several threads at once is not promised to be"
                + " safe. Nothing is promised beyond the answers and state changes described above,"
                + " and nothing about an object after its 512th call.");
    }
}
