/** Promise 24: every group of five digits, on a crowded and on an empty fair, compared with the model. */
public final class ScriptGroupsTest {
    private static final int GROUPS = 100000;
    private static final int QUESTIONS = 400;

    private SirenFair real;
    private Model model;

    public static void main(String[] args) {
        ScriptGroupsTest test = new ScriptGroupsTest();
        test.everyGroup("Us40401501s41401402h393922h428022h807044wu60c2t29");
        test.everyGroup("U");
        Check.end();
    }

    private void make(String text) {
        real = Fairs.withText(text);
        real.load();
        model = new Model();
        for (int i = 0; i < text.length(); i++) {
            model.append(text.charAt(i));
        }
        model.load();
    }

    private void everyGroup(String text) {
        int succeeded = 0;
        for (int i = 0; i < GROUPS; i++) {
            if (i % QUESTIONS == 0) {
                make(text);
            }
            int group = i;
            int due = model.runScript(1, group);
            succeeded += due < 0 ? 1 : 0;
            Check.due("group " + group + " on " + text, () -> real.runScript(1, group), due);
        }
        Check.isTrue("some groups succeed", succeeded > 100);
    }
}
