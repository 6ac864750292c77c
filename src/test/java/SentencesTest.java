/** Each sentence of ../shared/DOC.md, above all each that names a boundary case, by a test of its own. */
public final class SentencesTest {
    public static void main(String[] args) throws ReflectiveOperationException {
        FaceSentences.all();
        TermSentences.all();
        PlanningSentences.all();
        SettingUpSentences.all();
        PlanSentences.all();
        NumberSentences.all();
        WhatIfSentences.all();
        TextSentences.all();
        StateSentences.all();
        Sentences.end();
        Due.end();
    }
}
