import java.util.Random;

/** Promise 4 by draws: texts of few signs, most of them wrong somewhere, numbers of all lengths among them. */
public class TextsTest {
    private static final int TEXTS = 40000;
    private static final int TEXTS_OF_AN_OBJECT = 60;
    private static final String[] NUMBERS = {"0", "1", "2", "5", "6", "9", "00", "01", "02", "05", "10", "12", "50",
        "99", "000", "001", "002", "100", "099", "990", "0001", "1000", "9999", "00001", "10000"};
    private static final String[] SHOP = {"c#", "c#,#", "c#,#,#,#", "c#;p#", "c#;l#", "c#;t#", "c#,#;p#;l#;t#", "c1;p#;l#",
        "c1,#;t#", "c1,2,3,4,#"};
    private static final String[] CUSTOMER = {"#:a", "#:abcd", "#:ae", "#:abcda", "#", "1:#", "#:"};
    private static final String[] RULE = {"y:#", "y:v+#", "y:#=v?#", "y:!#<#&n>#?[#]", "y:(#=1)?#;y:i", "y:#*#/#"};

    private final Random draw = new Random(7);
    private TillPipe x;
    private int wrong;

    public static void main(String[] args) {
        TextsTest test = new TextsTest();
        for (int i = 0; i < TEXTS; i++) {
            if (i % TEXTS_OF_AN_OBJECT == 0) {
                test.x = new TillPipe();
            }
            test.one(i % 3);
        }
        System.out.println(TEXTS + " texts, " + test.wrong + " wrong");
        System.exit(test.wrong == 0 ? 0 : 1);
    }

    private void one(int sort) {
        String text = text(sort == 0 ? SHOP : sort == 1 ? CUSTOMER : RULE);
        x.end(0);
        for (int at = 0; at < text.length(); at += 20) {
            int[] five = new int[5];
            for (int i = at; i < at + 20 && i < text.length(); i++) {
                five[(i - at) / 4] |= text.charAt(i) << 24 - (i - at) % 4 * 8;
            }
            x.feed(five[0], five[1], five[2], five[3], five[4]);
        }
        int due = sort == 0 ? PlainTexts.shopFault(text)
            : sort == 1 ? PlainTexts.customerFault(text, 4) : PlainTexts.ruleFault(text);
        int answer = x.fault(sort);
        if (answer != due) {
            wrong++;
            System.out.println("fault(" + sort + ") of '" + text + "' -> " + answer + ", due " + due);
        }
    }

    private String text(String[] forms) {
        String form = forms[draw.nextInt(forms.length)];
        StringBuilder out = new StringBuilder();
        for (char sign : form.toCharArray()) {
            if (draw.nextInt(12) == 0) {
                out.append(' ');
            }
            if (draw.nextInt(60) > 0) {
                out.append(sign != '#' ? "" + sign : NUMBERS[draw.nextInt(NUMBERS.length)]);
            }
        }
        return out.toString();
    }
}
