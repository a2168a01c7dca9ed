/**
 * Texts at their limits, cut at every byte, with every byte in turn put in place of another or left
 * out: the FAULT, or what is told, must be the Oracle's.
 */
public final class FaultTest {
    private static final Checks CHECKS = new Checks();
    private static final String BYTES = " ;[]<>=+-*%09az`{/:\u0000\u001f!\u00a0\u00ff";

    private static final String[] CAMPS = {
        "camp 5 9;calm 9;kind 30;scout;can 0 0 20;kind 0;scout;can 1 1 0",
        " camp 00005 00009 ; scout ; kind 00030 ; can 0 0 00020 ",
        "camp 0 0" + ";calm 1".repeat(12) + ";kind 2".repeat(6) + ";scout".repeat(6),
        "camp 0 0;kind 1;scout" + ";can0 0 2".repeat(37),
        "camp 0 0" + ";scout".repeat(7),
        "camp0 0" + ";kind3".repeat(7),
        "camp 1 1;camp 2 2",
        "scout;camp 1 1"};

    private static final String[] RULES = {
        "try hard-skill if badge=0 and not[badges>3 or others<=1];try 1 if calm>=next;try day%2",
        "try 99999*99999/00001 if passed<tried or scout=kind",
        "try 1 if [[[[[[[[[[1=1]]]]]]]]]]",
        "try 1 if [not[not[not[not[not 1<=2]]]]]",
        "try 1 if " + "not ".repeat(10) + "1=1",
        "try 1" + "+1".repeat(59),
        "try 1+1+1 if 1=1" + " and 1=1".repeat(18),
        "try 1 if [1=1]and[1=1]and[[1=1]or not[1=1]]",
        "try 1;".repeat(11) + "try 1 if 1>=1",
        "try day" + ";try day".repeat(12)};

    public static void main(String[] args) {
        for (String text : CAMPS) {
            spoilAll(text, true);
        }
        for (String text : RULES) {
            spoilAll(text, false);
        }
        CHECKS.close();
    }

    private static void spoilAll(String text, boolean isCamp) {
        read(text, isCamp);
        for (int at = 0; at < text.length(); at++) {
            String ahead = text.substring(0, at);
            String behind = text.substring(at + 1);
            read(ahead, isCamp);
            read(ahead + behind, isCamp);
            read(text.substring(at), isCamp);
            for (int i = 0; i < BYTES.length(); i++) {
                read(ahead + BYTES.charAt(i) + behind, isCamp);
                read(ahead + BYTES.charAt(i) + text.substring(at), isCamp);
            }
        }
    }

    private static void read(String text, boolean isCamp) {
        FailBadge badge = new FailBadge();
        Oracle oracle = new Oracle();
        Checks.tell(badge, text);
        oracle.tape.append(text);
        if (isCamp) {
            CHECKS.due("camp of " + text, badge.camp(), oracle.camp());
            for (int what = 0; what < 5; what++) {
                CHECKS.due("count " + what + " by " + text, badge.count(what), oracle.count(what));
            }
        } else {
            CHECKS.due("rule of " + text, badge.rule(), oracle.rule());
        }
    }
}
